section X9E
variable {n : Nat} {h : eb_H} {T : TX} {ty : List Nat} {fa : Int} {past : List TX} {seed : Int} {i0 i1 : Option (TX × Int)} {sees : List (Nat × Bool)} {book : List (Int × Int)}
theorem x9_cost_unk {i j : Int} (HR : XR h T ty fa past seed i0 i1 sees book) (HO : SOK T ty fa past seed i0 i1 sees book) (hi : -2147483648 ≤ i ∧ i ≤ 2147483647) (hj : -2147483648 ≤ j ∧ j ≤ 2147483647) (hc : ¬ (0 ≤ i ∧ i < j ∧ j ≤ (T.1.length : Int))) : eb_T mX9_cost [.ref 0, .int (eb_I i), .int (eb_I j)] n h (eb_G (some (.int (eb_I (-1000000001)))) n (fun h' => XR h' T ty fa past seed i0 i1 sees book ∧ F67 h h')) := by
  refine eb_T.of (by decide +kernel) (Nat.le_of_ble_eq_true rfl) ?_
  show eb_V _ _ 0 [.ref 0, .int (eb_I i), .int (eb_I j)] [] (n, 0, 0) h _
  have HR' := HR
  obtain ⟨HX, HT, HY, HP, HD, HB, HN, HL, HS, HI0, HI1⟩ := HR
  have H_this := HX.1
  have hN : T.1.length ≤ 40 := HO.1.1.1
  have hq := tx_lok HO.1
  obtain ⟨H_this_text, ftx, H_this_text_words, hftx⟩ := id HT
  obtain ⟨wc, lf, gty, H_this_typed, H_ty1, H_ty2, hlf⟩ := id HY
  obtain ⟨pnx, pf, H_this_past, pr⟩ := id HP
  obtain ⟨bkf, bkg, H_this_book, bkr⟩ := id HB
  obtain ⟨ro, pl, to, ow, lb, HLN, hpl, hto, how, hlb⟩ := id HN
  obtain ⟨H_this_now, H_np, H_this_now_total, H_this_now_owner, H_nlb, H_nro, H_nrt⟩ := id HLN
  obtain ⟨fresh, tb, bf, HSU, hsu⟩ := id HS
  have H_this_survey := HSU.1
  obtain ⟨hB1, hB2⟩ := lt_B_up hq
  have hBl := br_len hB1 hB2
  simp only at hB1 hBl
  by_cases c1 : 0 ≤ i ∧ i ≤ (T.1.length : Int)
  · by_cases c2 : 0 ≤ j ∧ j ≤ (T.1.length : Int)
    · refine V_aload_n eX9_cost_0 rfl rfl ?_
      refine V_getf eX9_cost_1 H_this rfl ?_
      refine V_iload_n eX9_cost_4 rfl rfl ?_
      refine V_cvi eX9_cost_5 (c_X7_hasEnd HT hN hi) H_this_text rfl rfl (Nat.le_of_ble_eq_true rfl) ⟨rfl, rfl⟩ ⟨Nat.zero_le _, Nat.zero_le _⟩ ?_
      rw [if_pos c1]
      refine V_if_eq (tgt := 27) eX9_cost_8 rfl (by omega) (fun c_8 => ?_) (fun c_8 => ?_)
      · exact absurd c_8 (by omega)
      · refine V_aload_n eX9_cost_11 rfl rfl ?_
        refine V_getf eX9_cost_12 H_this rfl ?_
        refine V_iload_n eX9_cost_15 rfl rfl ?_
        refine V_cvi eX9_cost_16 (c_X7_hasEnd HT hN hj) H_this_text rfl rfl (Nat.le_of_ble_eq_true rfl) ⟨rfl, rfl⟩ ⟨Nat.zero_le _, Nat.zero_le _⟩ ?_
        rw [if_pos c2]
        refine V_if_eq (tgt := 27) eX9_cost_19 rfl (by omega) (fun c_19 => ?_) (fun c_19 => ?_)
        · exact absurd c_19 (by omega)
        · refine V_iload_n eX9_cost_22 rfl rfl ?_
          refine V_iload_n eX9_cost_23 rfl rfl ?_
          refine V_icmp_gt (tgt := 30) eX9_cost_24 rfl (by omega) (fun c_24 => ?_) (fun c_24 => ?_)
          · exact absurd c_24 (by omega)
          · refine V_ldc (a := -1000000001) eX9_cost_27 wd_511 (by decide) ?_
            exact V_iret eX9_cost_29 ⟨Nat.zero_le _, Nat.zero_le _⟩ rfl (rfl) (⟨rfl, rfl, HR', F67.rf⟩)
    · refine V_aload_n eX9_cost_0 rfl rfl ?_
      refine V_getf eX9_cost_1 H_this rfl ?_
      refine V_iload_n eX9_cost_4 rfl rfl ?_
      refine V_cvi eX9_cost_5 (c_X7_hasEnd HT hN hi) H_this_text rfl rfl (Nat.le_of_ble_eq_true rfl) ⟨rfl, rfl⟩ ⟨Nat.zero_le _, Nat.zero_le _⟩ ?_
      rw [if_pos c1]
      refine V_if_eq (tgt := 27) eX9_cost_8 rfl (by omega) (fun c_8 => ?_) (fun c_8 => ?_)
      · exact absurd c_8 (by omega)
      · refine V_aload_n eX9_cost_11 rfl rfl ?_
        refine V_getf eX9_cost_12 H_this rfl ?_
        refine V_iload_n eX9_cost_15 rfl rfl ?_
        refine V_cvi eX9_cost_16 (c_X7_hasEnd HT hN hj) H_this_text rfl rfl (Nat.le_of_ble_eq_true rfl) ⟨rfl, rfl⟩ ⟨Nat.zero_le _, Nat.zero_le _⟩ ?_
        rw [if_neg c2]
        refine V_if_eq (tgt := 27) eX9_cost_19 rfl (by omega) (fun c_19 => ?_) (fun c_19 => ?_)
        · refine V_ldc (a := -1000000001) eX9_cost_27 wd_511 (by decide) ?_
          exact V_iret eX9_cost_29 ⟨Nat.zero_le _, Nat.zero_le _⟩ rfl (rfl) (⟨rfl, rfl, HR', F67.rf⟩)
        · exact absurd rfl c_19
  · refine V_aload_n eX9_cost_0 rfl rfl ?_
    refine V_getf eX9_cost_1 H_this rfl ?_
    refine V_iload_n eX9_cost_4 rfl rfl ?_
    refine V_cvi eX9_cost_5 (c_X7_hasEnd HT hN hi) H_this_text rfl rfl (Nat.le_of_ble_eq_true rfl) ⟨rfl, rfl⟩ ⟨Nat.zero_le _, Nat.zero_le _⟩ ?_
    rw [if_neg c1]
    refine V_if_eq (tgt := 27) eX9_cost_8 rfl (by omega) (fun c_8 => ?_) (fun c_8 => ?_)
    · refine V_ldc (a := -1000000001) eX9_cost_27 wd_511 (by decide) ?_
      exact V_iret eX9_cost_29 ⟨Nat.zero_le _, Nat.zero_le _⟩ rfl (rfl) (⟨rfl, rfl, HR', F67.rf⟩)
    · exact absurd rfl c_8
theorem x9_cost_ok {i j : Nat} (HR : XR h T ty fa past seed i0 i1 sees book) (HO : SOK T ty fa past seed i0 i1 sees book) (hc : i < j) (hj : j ≤ T.1.length) : eb_T mX9_cost [.ref 0, .int (eb_I (i : Int)), .int (eb_I (j : Int))] n h (eb_G (some (.int (eb_I (lt_c (txq T) i j)))) n (fun h' => XR h' T ty fa past seed i0 i1 sees book ∧ F67 h h')) := by
  refine eb_T.of (by decide +kernel) (Nat.le_of_ble_eq_true rfl) ?_
  show eb_V _ _ 0 [.ref 0, .int (eb_I (i : Int)), .int (eb_I (j : Int))] [] (n, 0, 0) h _
  have HR' := HR
  obtain ⟨HX, HT, HY, HP, HD, HB, HN, HL, HS, HI0, HI1⟩ := HR
  have H_this := HX.1
  have hN : T.1.length ≤ 40 := HO.1.1.1
  have hq := tx_lok HO.1
  obtain ⟨H_this_text, ftx, H_this_text_words, hftx⟩ := id HT
  obtain ⟨wc, lf, gty, H_this_typed, H_ty1, H_ty2, hlf⟩ := id HY
  obtain ⟨pnx, pf, H_this_past, pr⟩ := id HP
  obtain ⟨bkf, bkg, H_this_book, bkr⟩ := id HB
  obtain ⟨ro, pl, to, ow, lb, HLN, hpl, hto, how, hlb⟩ := id HN
  obtain ⟨H_this_now, H_np, H_this_now_total, H_this_now_owner, H_nlb, H_nro, H_nrt⟩ := id HLN
  obtain ⟨fresh, tb, bf, HSU, hsu⟩ := id HS
  have H_this_survey := HSU.1
  obtain ⟨hB1, hB2⟩ := lt_B_up hq
  have hBl := br_len hB1 hB2
  simp only at hB1 hBl
  refine V_aload_n eX9_cost_0 rfl rfl ?_
  refine V_getf eX9_cost_1 H_this rfl ?_
  refine V_iload_n eX9_cost_4 rfl rfl ?_
  refine V_cvi eX9_cost_5 (c_X7_hasEnd HT hN (by omega)) H_this_text rfl rfl (Nat.le_of_ble_eq_true rfl) ⟨rfl, rfl⟩ ⟨Nat.zero_le _, Nat.zero_le _⟩ ?_
  rw [if_pos (by omega)]
  refine V_if_eq (tgt := 27) eX9_cost_8 rfl (by omega) (fun c_8 => ?_) (fun c_8 => ?_)
  · exact absurd c_8 (by omega)
  · refine V_aload_n eX9_cost_11 rfl rfl ?_
    refine V_getf eX9_cost_12 H_this rfl ?_
    refine V_iload_n eX9_cost_15 rfl rfl ?_
    refine V_cvi eX9_cost_16 (c_X7_hasEnd HT hN (by omega)) H_this_text rfl rfl (Nat.le_of_ble_eq_true rfl) ⟨rfl, rfl⟩ ⟨Nat.zero_le _, Nat.zero_le _⟩ ?_
    rw [if_pos (by omega)]
    refine V_if_eq (tgt := 27) eX9_cost_19 rfl (by omega) (fun c_19 => ?_) (fun c_19 => ?_)
    · exact absurd c_19 (by omega)
    · refine V_iload_n eX9_cost_22 rfl rfl ?_
      refine V_iload_n eX9_cost_23 rfl rfl ?_
      refine V_icmp_gt (tgt := 30) eX9_cost_24 rfl (by omega) (fun c_24 => ?_) (fun c_24 => ?_)
      · refine V_aload_n eX9_cost_30 rfl rfl ?_
        refine V_getf eX9_cost_31 H_this rfl ?_
        refine V_iload_n eX9_cost_34 rfl rfl ?_
        refine V_iload_n eX9_cost_35 rfl rfl ?_
        refine V_cvi eX9_cost_36 (c_X3_pr HLN hq hpl (by omega) (by omega)) H_this_now rfl rfl (Nat.le_of_ble_eq_true rfl) ⟨rfl, rfl⟩ ⟨Nat.zero_le _, Nat.zero_le _⟩ ?_
        exact V_iret eX9_cost_39 ⟨Nat.zero_le _, Nat.zero_le _⟩ rfl (rfl) (⟨rfl, rfl, HR', F67.rf⟩)
      · exact absurd (by omega) c_24
theorem x9_known_unk {i j : Int} (HR : XR h T ty fa past seed i0 i1 sees book) (HO : SOK T ty fa past seed i0 i1 sees book) (hi : -2147483648 ≤ i ∧ i ≤ 2147483647) (hj : -2147483648 ≤ j ∧ j ≤ 2147483647) (hc : ¬ (0 ≤ j ∧ j < i ∧ i ≤ (T.1.length : Int))) : eb_T mX9_known [.ref 0, .int (eb_I i), .int (eb_I j)] n h (eb_G (some (.int (eb_I (-1000000001)))) n (fun h' => XR h' T ty fa past seed i0 i1 sees book ∧ F67 h h')) := by
  refine eb_T.of (by decide +kernel) (Nat.le_of_ble_eq_true rfl) ?_
  show eb_V _ _ 0 [.ref 0, .int (eb_I i), .int (eb_I j)] [] (n, 0, 0) h _
  have HR' := HR
  obtain ⟨HX, HT, HY, HP, HD, HB, HN, HL, HS, HI0, HI1⟩ := HR
  have H_this := HX.1
  have hN : T.1.length ≤ 40 := HO.1.1.1
  have hq := tx_lok HO.1
  obtain ⟨H_this_text, ftx, H_this_text_words, hftx⟩ := id HT
  obtain ⟨wc, lf, gty, H_this_typed, H_ty1, H_ty2, hlf⟩ := id HY
  obtain ⟨pnx, pf, H_this_past, pr⟩ := id HP
  obtain ⟨bkf, bkg, H_this_book, bkr⟩ := id HB
  obtain ⟨ro, pl, to, ow, lb, HLN, hpl, hto, how, hlb⟩ := id HN
  obtain ⟨H_this_now, H_np, H_this_now_total, H_this_now_owner, H_nlb, H_nro, H_nrt⟩ := id HLN
  obtain ⟨fresh, tb, bf, HSU, hsu⟩ := id HS
  have H_this_survey := HSU.1
  obtain ⟨hB1, hB2⟩ := lt_B_up hq
  have hBl := br_len hB1 hB2
  simp only at hB1 hBl
  by_cases c1 : 0 ≤ i ∧ i ≤ (T.1.length : Int)
  · by_cases c2 : 0 ≤ j ∧ j ≤ (T.1.length : Int)
    · refine V_aload_n eX9_known_0 rfl rfl ?_
      refine V_getf eX9_known_1 H_this rfl ?_
      refine V_iload_n eX9_known_4 rfl rfl ?_
      refine V_cvi eX9_known_5 (c_X7_hasEnd HT hN hi) H_this_text rfl rfl (Nat.le_of_ble_eq_true rfl) ⟨rfl, rfl⟩ ⟨Nat.zero_le _, Nat.zero_le _⟩ ?_
      rw [if_pos c1]
      refine V_if_eq (tgt := 27) eX9_known_8 rfl (by omega) (fun c_8 => ?_) (fun c_8 => ?_)
      · exact absurd c_8 (by omega)
      · refine V_aload_n eX9_known_11 rfl rfl ?_
        refine V_getf eX9_known_12 H_this rfl ?_
        refine V_iload_n eX9_known_15 rfl rfl ?_
        refine V_cvi eX9_known_16 (c_X7_hasEnd HT hN hj) H_this_text rfl rfl (Nat.le_of_ble_eq_true rfl) ⟨rfl, rfl⟩ ⟨Nat.zero_le _, Nat.zero_le _⟩ ?_
        rw [if_pos c2]
        refine V_if_eq (tgt := 27) eX9_known_19 rfl (by omega) (fun c_19 => ?_) (fun c_19 => ?_)
        · exact absurd c_19 (by omega)
        · refine V_iload_n eX9_known_22 rfl rfl ?_
          refine V_iload_n eX9_known_23 rfl rfl ?_
          refine V_icmp_lt (tgt := 30) eX9_known_24 rfl (by omega) (fun c_24 => ?_) (fun c_24 => ?_)
          · exact absurd c_24 (by omega)
          · refine V_ldc (a := -1000000001) eX9_known_27 wd_511 (by decide) ?_
            exact V_iret eX9_known_29 ⟨Nat.zero_le _, Nat.zero_le _⟩ rfl (rfl) (⟨rfl, rfl, HR', F67.rf⟩)
    · refine V_aload_n eX9_known_0 rfl rfl ?_
      refine V_getf eX9_known_1 H_this rfl ?_
      refine V_iload_n eX9_known_4 rfl rfl ?_
      refine V_cvi eX9_known_5 (c_X7_hasEnd HT hN hi) H_this_text rfl rfl (Nat.le_of_ble_eq_true rfl) ⟨rfl, rfl⟩ ⟨Nat.zero_le _, Nat.zero_le _⟩ ?_
      rw [if_pos c1]
      refine V_if_eq (tgt := 27) eX9_known_8 rfl (by omega) (fun c_8 => ?_) (fun c_8 => ?_)
      · exact absurd c_8 (by omega)
      · refine V_aload_n eX9_known_11 rfl rfl ?_
        refine V_getf eX9_known_12 H_this rfl ?_
        refine V_iload_n eX9_known_15 rfl rfl ?_
        refine V_cvi eX9_known_16 (c_X7_hasEnd HT hN hj) H_this_text rfl rfl (Nat.le_of_ble_eq_true rfl) ⟨rfl, rfl⟩ ⟨Nat.zero_le _, Nat.zero_le _⟩ ?_
        rw [if_neg c2]
        refine V_if_eq (tgt := 27) eX9_known_19 rfl (by omega) (fun c_19 => ?_) (fun c_19 => ?_)
        · refine V_ldc (a := -1000000001) eX9_known_27 wd_511 (by decide) ?_
          exact V_iret eX9_known_29 ⟨Nat.zero_le _, Nat.zero_le _⟩ rfl (rfl) (⟨rfl, rfl, HR', F67.rf⟩)
        · exact absurd rfl c_19
  · refine V_aload_n eX9_known_0 rfl rfl ?_
    refine V_getf eX9_known_1 H_this rfl ?_
    refine V_iload_n eX9_known_4 rfl rfl ?_
    refine V_cvi eX9_known_5 (c_X7_hasEnd HT hN hi) H_this_text rfl rfl (Nat.le_of_ble_eq_true rfl) ⟨rfl, rfl⟩ ⟨Nat.zero_le _, Nat.zero_le _⟩ ?_
    rw [if_neg c1]
    refine V_if_eq (tgt := 27) eX9_known_8 rfl (by omega) (fun c_8 => ?_) (fun c_8 => ?_)
    · refine V_ldc (a := -1000000001) eX9_known_27 wd_511 (by decide) ?_
      exact V_iret eX9_known_29 ⟨Nat.zero_le _, Nat.zero_le _⟩ rfl (rfl) (⟨rfl, rfl, HR', F67.rf⟩)
    · exact absurd rfl c_8
theorem x9_known_ok {i j : Nat} (HR : XR h T ty fa past seed i0 i1 sees book) (HO : SOK T ty fa past seed i0 i1 sees book) (hc : j < i) (hj : i ≤ T.1.length) : eb_T mX9_known [.ref 0, .int (eb_I (i : Int)), .int (eb_I (j : Int))] n h (eb_G (some (.int (eb_I (lt_kn (lt_c (txq T)) i j)))) n (fun h' => XR h' T ty fa past seed i0 i1 sees book ∧ F67 h h')) := by
  refine eb_T.of (by decide +kernel) (Nat.le_of_ble_eq_true rfl) ?_
  show eb_V _ _ 0 [.ref 0, .int (eb_I (i : Int)), .int (eb_I (j : Int))] [] (n, 0, 0) h _
  have HR' := HR
  obtain ⟨HX, HT, HY, HP, HD, HB, HN, HL, HS, HI0, HI1⟩ := HR
  have H_this := HX.1
  have hN : T.1.length ≤ 40 := HO.1.1.1
  have hq := tx_lok HO.1
  obtain ⟨H_this_text, ftx, H_this_text_words, hftx⟩ := id HT
  obtain ⟨wc, lf, gty, H_this_typed, H_ty1, H_ty2, hlf⟩ := id HY
  obtain ⟨pnx, pf, H_this_past, pr⟩ := id HP
  obtain ⟨bkf, bkg, H_this_book, bkr⟩ := id HB
  obtain ⟨ro, pl, to, ow, lb, HLN, hpl, hto, how, hlb⟩ := id HN
  obtain ⟨H_this_now, H_np, H_this_now_total, H_this_now_owner, H_nlb, H_nro, H_nrt⟩ := id HLN
  obtain ⟨fresh, tb, bf, HSU, hsu⟩ := id HS
  have H_this_survey := HSU.1
  obtain ⟨hB1, hB2⟩ := lt_B_up hq
  have hBl := br_len hB1 hB2
  simp only at hB1 hBl
  refine V_aload_n eX9_known_0 rfl rfl ?_
  refine V_getf eX9_known_1 H_this rfl ?_
  refine V_iload_n eX9_known_4 rfl rfl ?_
  refine V_cvi eX9_known_5 (c_X7_hasEnd HT hN (by omega)) H_this_text rfl rfl (Nat.le_of_ble_eq_true rfl) ⟨rfl, rfl⟩ ⟨Nat.zero_le _, Nat.zero_le _⟩ ?_
  rw [if_pos (by omega)]
  refine V_if_eq (tgt := 27) eX9_known_8 rfl (by omega) (fun c_8 => ?_) (fun c_8 => ?_)
  · exact absurd c_8 (by omega)
  · refine V_aload_n eX9_known_11 rfl rfl ?_
    refine V_getf eX9_known_12 H_this rfl ?_
    refine V_iload_n eX9_known_15 rfl rfl ?_
    refine V_cvi eX9_known_16 (c_X7_hasEnd HT hN (by omega)) H_this_text rfl rfl (Nat.le_of_ble_eq_true rfl) ⟨rfl, rfl⟩ ⟨Nat.zero_le _, Nat.zero_le _⟩ ?_
    rw [if_pos (by omega)]
    refine V_if_eq (tgt := 27) eX9_known_19 rfl (by omega) (fun c_19 => ?_) (fun c_19 => ?_)
    · exact absurd c_19 (by omega)
    · refine V_iload_n eX9_known_22 rfl rfl ?_
      refine V_iload_n eX9_known_23 rfl rfl ?_
      refine V_icmp_lt (tgt := 30) eX9_known_24 rfl (by omega) (fun c_24 => ?_) (fun c_24 => ?_)
      · refine V_aload_n eX9_known_30 rfl rfl ?_
        refine V_getf eX9_known_31 H_this rfl ?_
        refine V_iload_n eX9_known_34 rfl rfl ?_
        refine V_iload_n eX9_known_35 rfl rfl ?_
        refine V_cvi eX9_known_36 (c_X3_ownerKnownTo HLN hq hpl hto (by omega) (by omega)) H_this_now rfl rfl (Nat.le_of_ble_eq_true rfl) ⟨rfl, rfl⟩ ⟨Nat.zero_le _, Nat.zero_le _⟩ ?_
        exact V_iret eX9_known_39 ⟨Nat.zero_le _, Nat.zero_le _⟩ rfl (rfl) (⟨rfl, rfl, HR', F67.rf⟩)
      · exact absurd (by omega) c_24
theorem x9_first_0 {v : Int} (HR : XR h T ty fa past seed i0 i1 sees book) (HO : SOK T ty fa past seed i0 i1 sees book) (hv : lc (fc_4 (lt_c (txq T)) T.1.length 1) v) : eb_T mX9_first [.ref 0, .int (eb_I 0)] n h (eb_G (some (.int (eb_I (v)))) n (fun h' => XR h' T ty fa past seed i0 i1 sees book ∧ F67 h h')) := by
  refine eb_T.of (by decide +kernel) (Nat.le_of_ble_eq_true rfl) ?_
  show eb_V _ _ 0 [.ref 0, .int (eb_I 0)] [] (n, 0, 0) h _
  have HR' := HR
  obtain ⟨HX, HT, HY, HP, HD, HB, HN, HL, HS, HI0, HI1⟩ := HR
  have H_this := HX.1
  have hN : T.1.length ≤ 40 := HO.1.1.1
  have hq := tx_lok HO.1
  obtain ⟨H_this_text, ftx, H_this_text_words, hftx⟩ := id HT
  obtain ⟨wc, lf, gty, H_this_typed, H_ty1, H_ty2, hlf⟩ := id HY
  obtain ⟨pnx, pf, H_this_past, pr⟩ := id HP
  obtain ⟨bkf, bkg, H_this_book, bkr⟩ := id HB
  obtain ⟨ro, pl, to, ow, lb, HLN, hpl, hto, how, hlb⟩ := id HN
  obtain ⟨H_this_now, H_np, H_this_now_total, H_this_now_owner, H_nlb, H_nro, H_nrt⟩ := id HLN
  obtain ⟨fresh, tb, bf, HSU, hsu⟩ := id HS
  have H_this_survey := HSU.1
  obtain ⟨hB1, hB2⟩ := lt_B_up hq
  have hBl := br_len hB1 hB2
  simp only at hB1 hBl
  refine V_iload_n eX9_first_0 rfl rfl ?_
  refine V_lsw (tgt := 28) (off := 27) eX9_first_1 (by decide) (by decide) (by decide) rfl ?_
  refine V_aload_n eX9_first_28 rfl rfl ?_
  refine V_getf eX9_first_29 H_this rfl ?_
  refine V_iconst eX9_first_32 ?_
  refine V_cvg eX9_first_33 (c_X3_firstCrossed HLN (by omega) hq hpl (by omega) hv) H_this_now rfl rfl (Nat.le_of_ble_eq_true rfl) ⟨rfl, rfl⟩ ⟨Nat.zero_le _, Nat.zero_le _⟩ (fun h1 ⟨⟨ro1, HL1⟩, hfr⟩ => ?_)
  show eb_V _ _ 36 _ [.int (eb_I v)] _ _ _
  exact V_iret eX9_first_36 ⟨Nat.zero_le _, Nat.zero_le _⟩ rfl (rfl) (⟨rfl, rfl, HR'.re (fun x a b => hfr x (by omega)) (fun x a b => hfr x (by omega)) ⟨ro1, pl, to, ow, lb, HL1, hpl, hto, how, hlb⟩ (HL.kept (hfr _ (by omega)) (fun x a b => hfr x (by omega))) (HS.kept (fun x a b => hfr x (by omega))), fun k hk => hfr k (by omega)⟩)
theorem x9_first_1 {v : Int} (HR : XR h T ty fa past seed i0 i1 sees book) (HO : SOK T ty fa past seed i0 i1 sees book) (hv : lc (fc_4 (lt_c (txq T)) T.1.length (-1)) v) : eb_T mX9_first [.ref 0, .int (eb_I 1)] n h (eb_G (some (.int (eb_I (v)))) n (fun h' => XR h' T ty fa past seed i0 i1 sees book ∧ F67 h h')) := by
  refine eb_T.of (by decide +kernel) (Nat.le_of_ble_eq_true rfl) ?_
  show eb_V _ _ 0 [.ref 0, .int (eb_I 1)] [] (n, 0, 0) h _
  have HR' := HR
  obtain ⟨HX, HT, HY, HP, HD, HB, HN, HL, HS, HI0, HI1⟩ := HR
  have H_this := HX.1
  have hN : T.1.length ≤ 40 := HO.1.1.1
  have hq := tx_lok HO.1
  obtain ⟨H_this_text, ftx, H_this_text_words, hftx⟩ := id HT
  obtain ⟨wc, lf, gty, H_this_typed, H_ty1, H_ty2, hlf⟩ := id HY
  obtain ⟨pnx, pf, H_this_past, pr⟩ := id HP
  obtain ⟨bkf, bkg, H_this_book, bkr⟩ := id HB
  obtain ⟨ro, pl, to, ow, lb, HLN, hpl, hto, how, hlb⟩ := id HN
  obtain ⟨H_this_now, H_np, H_this_now_total, H_this_now_owner, H_nlb, H_nro, H_nrt⟩ := id HLN
  obtain ⟨fresh, tb, bf, HSU, hsu⟩ := id HS
  have H_this_survey := HSU.1
  obtain ⟨hB1, hB2⟩ := lt_B_up hq
  have hBl := br_len hB1 hB2
  simp only at hB1 hBl
  refine V_iload_n eX9_first_0 rfl rfl ?_
  refine V_lsw (tgt := 37) (off := 36) eX9_first_1 (by decide) (by decide) (by decide) rfl ?_
  refine V_aload_n eX9_first_37 rfl rfl ?_
  refine V_getf eX9_first_38 H_this rfl ?_
  refine V_iconst eX9_first_41 ?_
  refine V_cvg eX9_first_42 (c_X3_firstCrossed HLN (by omega) hq hpl (by omega) hv) H_this_now rfl rfl (Nat.le_of_ble_eq_true rfl) ⟨rfl, rfl⟩ ⟨Nat.zero_le _, Nat.zero_le _⟩ (fun h1 ⟨⟨ro1, HL1⟩, hfr⟩ => ?_)
  show eb_V _ _ 45 _ [.int (eb_I v)] _ _ _
  exact V_iret eX9_first_45 ⟨Nat.zero_le _, Nat.zero_le _⟩ rfl (rfl) (⟨rfl, rfl, HR'.re (fun x a b => hfr x (by omega)) (fun x a b => hfr x (by omega)) ⟨ro1, pl, to, ow, lb, HL1, hpl, hto, how, hlb⟩ (HL.kept (hfr _ (by omega)) (fun x a b => hfr x (by omega))) (HS.kept (fun x a b => hfr x (by omega))), fun k hk => hfr k (by omega)⟩)
theorem x9_first_out {w : Int} (HR : XR h T ty fa past seed i0 i1 sees book) (HO : SOK T ty fa past seed i0 i1 sees book) (hw : -2147483648 ≤ w ∧ w ≤ 2147483647) (hc : ¬ (0 ≤ w ∧ w ≤ 1)) : eb_T mX9_first [.ref 0, .int (eb_I w)] n h (eb_G (some (.int (eb_I (-1000000002)))) n (fun h' => XR h' T ty fa past seed i0 i1 sees book ∧ F67 h h')) := by
  refine eb_T.of (by decide +kernel) (Nat.le_of_ble_eq_true rfl) ?_
  show eb_V _ _ 0 [.ref 0, .int (eb_I w)] [] (n, 0, 0) h _
  have HR' := HR
  obtain ⟨HX, HT, HY, HP, HD, HB, HN, HL, HS, HI0, HI1⟩ := HR
  have H_this := HX.1
  have hN : T.1.length ≤ 40 := HO.1.1.1
  have hq := tx_lok HO.1
  obtain ⟨H_this_text, ftx, H_this_text_words, hftx⟩ := id HT
  obtain ⟨wc, lf, gty, H_this_typed, H_ty1, H_ty2, hlf⟩ := id HY
  obtain ⟨pnx, pf, H_this_past, pr⟩ := id HP
  obtain ⟨bkf, bkg, H_this_book, bkr⟩ := id HB
  obtain ⟨ro, pl, to, ow, lb, HLN, hpl, hto, how, hlb⟩ := id HN
  obtain ⟨H_this_now, H_np, H_this_now_total, H_this_now_owner, H_nlb, H_nro, H_nrt⟩ := id HLN
  obtain ⟨fresh, tb, bf, HSU, hsu⟩ := id HS
  have H_this_survey := HSU.1
  obtain ⟨hB1, hB2⟩ := lt_B_up hq
  have hBl := br_len hB1 hB2
  simp only at hB1 hBl
  refine V_iload_n eX9_first_0 rfl rfl ?_
  refine V_lsw (tgt := 46) (off := 45) eX9_first_1 (hw) (by decide) (by rw [Op.lookupswitch.offset_cons, if_neg (by omega), Op.lookupswitch.offset_cons, if_neg (by omega)]; rfl) rfl ?_
  refine V_ldc (a := -1000000002) eX9_first_46 wd_376 (by decide) ?_
  exact V_iret eX9_first_48 ⟨Nat.zero_le _, Nat.zero_le _⟩ rfl (rfl) (⟨rfl, rfl, HR', F67.rf⟩)
theorem x9_with_out {k : Int} (HR : XR h T ty fa past seed i0 i1 sees book) (HO : SOK T ty fa past seed i0 i1 sees book) (hk : -2147483648 ≤ k ∧ k ≤ 2147483647) (hc : ¬ (1 ≤ k ∧ k ≤ 40)) : eb_T mX9_with [.ref 0, .int (eb_I k)] n h (eb_G (some (.int (eb_I (-1000000002)))) n (fun h' => XR h' T ty fa past seed i0 i1 sees book ∧ F67 h h')) := by
  refine eb_T.of (by decide +kernel) (Nat.le_of_ble_eq_true rfl) ?_
  show eb_V _ _ 0 [.ref 0, .int (eb_I k)] [] (n, 0, 0) h _
  have HR' := HR
  obtain ⟨HX, HT, HY, HP, HD, HB, HN, HL, HS, HI0, HI1⟩ := HR
  have H_this := HX.1
  have hN : T.1.length ≤ 40 := HO.1.1.1
  have hq := tx_lok HO.1
  obtain ⟨H_this_text, ftx, H_this_text_words, hftx⟩ := id HT
  obtain ⟨wc, lf, gty, H_this_typed, H_ty1, H_ty2, hlf⟩ := id HY
  obtain ⟨pnx, pf, H_this_past, pr⟩ := id HP
  obtain ⟨bkf, bkg, H_this_book, bkr⟩ := id HB
  obtain ⟨ro, pl, to, ow, lb, HLN, hpl, hto, how, hlb⟩ := id HN
  obtain ⟨H_this_now, H_np, H_this_now_total, H_this_now_owner, H_nlb, H_nro, H_nrt⟩ := id HLN
  obtain ⟨fresh, tb, bf, HSU, hsu⟩ := id HS
  have H_this_survey := HSU.1
  obtain ⟨hB1, hB2⟩ := lt_B_up hq
  have hBl := br_len hB1 hB2
  simp only at hB1 hBl
  refine V_iload_n eX9_with_0 rfl rfl ?_
  refine V_iconst eX9_with_1 ?_
  refine V_icmp_lt (tgt := 11) eX9_with_2 rfl (by omega) (fun c_2 => ?_) (fun c_2 => ?_)
  · refine V_ldc (a := -1000000002) eX9_with_11 wd_376 (by decide) ?_
    exact V_iret eX9_with_13 ⟨Nat.zero_le _, Nat.zero_le _⟩ rfl (rfl) (⟨rfl, rfl, HR', F67.rf⟩)
  · refine V_iload_n eX9_with_5 rfl rfl ?_
    refine V_bipush eX9_with_6 (by decide) ?_
    refine V_icmp_le (tgt := 14) eX9_with_8 rfl (by omega) (fun c_8 => ?_) (fun c_8 => ?_)
    · exact absurd c_8 (by omega)
    · refine V_ldc (a := -1000000002) eX9_with_11 wd_376 (by decide) ?_
      exact V_iret eX9_with_13 ⟨Nat.zero_le _, Nat.zero_le _⟩ rfl (rfl) (⟨rfl, rfl, HR', F67.rf⟩)
theorem x9_with_ok {k : Nat} (HR : XR h T ty fa past seed i0 i1 sees book) (HO : SOK T ty fa past seed i0 i1 sees book) (hk : 1 ≤ k ∧ k ≤ 40) : eb_T mX9_with [.ref 0, .int (eb_I (k : Int))] n h (eb_G (some (.int (eb_I (if T.1.length < k then -1 else wl_R (lt_c (txq T)) k T.1.length)))) n (fun h' => XR h' T ty fa past seed i0 i1 sees book ∧ F67 h h')) := by
  refine eb_T.of (by decide +kernel) (Nat.le_of_ble_eq_true rfl) ?_
  show eb_V _ _ 0 [.ref 0, .int (eb_I (k : Int))] [] (n, 0, 0) h _
  have HR' := HR
  obtain ⟨HX, HT, HY, HP, HD, HB, HN, HL, HS, HI0, HI1⟩ := HR
  have H_this := HX.1
  have hN : T.1.length ≤ 40 := HO.1.1.1
  have hq := tx_lok HO.1
  obtain ⟨H_this_text, ftx, H_this_text_words, hftx⟩ := id HT
  obtain ⟨wc, lf, gty, H_this_typed, H_ty1, H_ty2, hlf⟩ := id HY
  obtain ⟨pnx, pf, H_this_past, pr⟩ := id HP
  obtain ⟨bkf, bkg, H_this_book, bkr⟩ := id HB
  obtain ⟨ro, pl, to, ow, lb, HLN, hpl, hto, how, hlb⟩ := id HN
  obtain ⟨H_this_now, H_np, H_this_now_total, H_this_now_owner, H_nlb, H_nro, H_nrt⟩ := id HLN
  obtain ⟨fresh, tb, bf, HSU, hsu⟩ := id HS
  have H_this_survey := HSU.1
  obtain ⟨hB1, hB2⟩ := lt_B_up hq
  have hBl := br_len hB1 hB2
  simp only at hB1 hBl
  refine V_iload_n eX9_with_0 rfl rfl ?_
  refine V_iconst eX9_with_1 ?_
  refine V_icmp_lt (tgt := 11) eX9_with_2 rfl (by omega) (fun c_2 => ?_) (fun c_2 => ?_)
  · exact absurd c_2 (by omega)
  · refine V_iload_n eX9_with_5 rfl rfl ?_
    refine V_bipush eX9_with_6 (by decide) ?_
    refine V_icmp_le (tgt := 14) eX9_with_8 rfl (by omega) (fun c_8 => ?_) (fun c_8 => ?_)
    · refine V_aload_n eX9_with_14 rfl rfl ?_
      refine V_getf eX9_with_15 H_this rfl ?_
      refine V_iload_n eX9_with_18 rfl rfl ?_
      refine V_cvg eX9_with_19 (c_X3_leastWithLines HLN (by omega) hq hpl hk) H_this_now rfl rfl (Nat.le_of_ble_eq_true rfl) ⟨rfl, rfl⟩ ⟨Nat.zero_le _, Nat.zero_le _⟩ (fun h1 ⟨⟨ro1, HL1⟩, hfr⟩ => ?_)
      show eb_V _ _ 22 _ [.int (eb_I (if T.1.length < k then -1 else wl_R (lt_c (txq T)) k T.1.length))] _ _ _
      exact V_iret eX9_with_22 ⟨Nat.zero_le _, Nat.zero_le _⟩ rfl (rfl) (⟨rfl, rfl, HR'.re (fun x a b => hfr x (by omega)) (fun x a b => hfr x (by omega)) ⟨ro1, pl, to, ow, lb, HL1, hpl, hto, how, hlb⟩ (HL.kept (hfr _ (by omega)) (fun x a b => hfr x (by omega))) (HS.kept (fun x a b => hfr x (by omega))), fun k hk => hfr k (by omega)⟩)
    · exact absurd (by omega) c_8
theorem x9_see_unk {e : Int} {x : Bool} (HR : XR h T ty fa past seed i0 i1 sees book) (HO : SOK T ty fa past seed i0 i1 sees book) (he : -2147483648 ≤ e ∧ e ≤ 2147483647) (hc : ¬ (0 ≤ e ∧ e ≤ (T.1.length : Int))) : eb_T mX9_see [.ref 0, .int (eb_I e), .int (eb_I (if x then 1 else 0))] n h (eb_G (some (.int (eb_I (-1000000001)))) n (fun h' => XR h' T ty fa past seed i0 i1 sees book ∧ F67 h h')) := by
  refine eb_T.of (by decide +kernel) (Nat.le_of_ble_eq_true rfl) ?_
  show eb_V _ _ 0 [.ref 0, .int (eb_I e), .int (eb_I (if x then 1 else 0))] [] (n, 0, 0) h _
  have HR' := HR
  obtain ⟨HX, HT, HY, HP, HD, HB, HN, HL, HS, HI0, HI1⟩ := HR
  have H_this := HX.1
  have hN : T.1.length ≤ 40 := HO.1.1.1
  have hq := tx_lok HO.1
  obtain ⟨H_this_text, ftx, H_this_text_words, hftx⟩ := id HT
  obtain ⟨wc, lf, gty, H_this_typed, H_ty1, H_ty2, hlf⟩ := id HY
  obtain ⟨pnx, pf, H_this_past, pr⟩ := id HP
  obtain ⟨bkf, bkg, H_this_book, bkr⟩ := id HB
  obtain ⟨ro, pl, to, ow, lb, HLN, hpl, hto, how, hlb⟩ := id HN
  obtain ⟨H_this_now, H_np, H_this_now_total, H_this_now_owner, H_nlb, H_nro, H_nrt⟩ := id HLN
  obtain ⟨fresh, tb, bf, HSU, hsu⟩ := id HS
  have H_this_survey := HSU.1
  obtain ⟨hB1, hB2⟩ := lt_B_up hq
  have hBl := br_len hB1 hB2
  simp only at hB1 hBl
  refine V_aload_n eX9_see_0 rfl rfl ?_
  refine V_getf eX9_see_1 H_this rfl ?_
  refine V_iload_n eX9_see_4 rfl rfl ?_
  refine V_cvi eX9_see_5 (c_X7_hasEnd HT hN he) H_this_text rfl rfl (Nat.le_of_ble_eq_true rfl) ⟨rfl, rfl⟩ ⟨Nat.zero_le _, Nat.zero_le _⟩ ?_
  rw [if_neg hc]
  refine V_if_ne (tgt := 14) eX9_see_8 rfl (by omega) (fun c_8 => ?_) (fun c_8 => ?_)
  · exact absurd rfl c_8
  · refine V_ldc (a := -1000000001) eX9_see_11 wd_511 (by decide) ?_
    exact V_iret eX9_see_13 ⟨Nat.zero_le _, Nat.zero_le _⟩ rfl (rfl) (⟨rfl, rfl, HR', F67.rf⟩)
theorem x9_see_ok {e : Nat} {x : Bool} (HR : XR h T ty fa past seed i0 i1 sees book) (HO : SOK T ty fa past seed i0 i1 sees book) (hc : e ≤ T.1.length) : eb_T mX9_see [.ref 0, .int (eb_I (e : Int)), .int (eb_I (if x then 1 else 0))] n h (eb_G (some (.int (eb_I (if 6 ≤ sees.length then -1000000004 else (sees.length : Int) + 1)))) n (fun h' => XR h' T ty fa past seed i0 i1 (if 6 ≤ sees.length then sees else sees ++ [(e, x)]) book ∧ F67 h h')) := by
  refine eb_T.of (by decide +kernel) (Nat.le_of_ble_eq_true rfl) ?_
  show eb_V _ _ 0 [.ref 0, .int (eb_I (e : Int)), .int (eb_I (if x then 1 else 0))] [] (n, 0, 0) h _
  have HR' := HR
  obtain ⟨HX, HT, HY, HP, HD, HB, HN, HL, HS, HI0, HI1⟩ := HR
  have H_this := HX.1
  have hN : T.1.length ≤ 40 := HO.1.1.1
  have hq := tx_lok HO.1
  obtain ⟨H_this_text, ftx, H_this_text_words, hftx⟩ := id HT
  obtain ⟨wc, lf, gty, H_this_typed, H_ty1, H_ty2, hlf⟩ := id HY
  obtain ⟨pnx, pf, H_this_past, pr⟩ := id HP
  obtain ⟨bkf, bkg, H_this_book, bkr⟩ := id HB
  obtain ⟨ro, pl, to, ow, lb, HLN, hpl, hto, how, hlb⟩ := id HN
  obtain ⟨H_this_now, H_np, H_this_now_total, H_this_now_owner, H_nlb, H_nro, H_nrt⟩ := id HLN
  obtain ⟨fresh, tb, bf, HSU, hsu⟩ := id HS
  have H_this_survey := HSU.1
  obtain ⟨hB1, hB2⟩ := lt_B_up hq
  have hBl := br_len hB1 hB2
  simp only at hB1 hBl
  refine V_aload_n eX9_see_0 rfl rfl ?_
  refine V_getf eX9_see_1 H_this rfl ?_
  refine V_iload_n eX9_see_4 rfl rfl ?_
  refine V_cvi eX9_see_5 (c_X7_hasEnd HT hN (by omega)) H_this_text rfl rfl (Nat.le_of_ble_eq_true rfl) ⟨rfl, rfl⟩ ⟨Nat.zero_le _, Nat.zero_le _⟩ ?_
  rw [if_pos (show 0 ≤ (e : Int) ∧ (e : Int) ≤ (T.1.length : Int) by omega)]
  refine V_if_ne (tgt := 14) eX9_see_8 rfl (by omega) (fun c_8 => ?_) (fun c_8 => ?_)
  · refine V_aload_n eX9_see_14 rfl rfl ?_
    refine V_getf eX9_see_15 H_this rfl ?_
    refine V_iload_n eX9_see_18 rfl rfl ?_
    refine V_iload_n eX9_see_19 rfl rfl ?_
    refine V_cvg eX9_see_20 (c_X6_note HSU HO.2.2.2.2.2.2.2.1 (by omega)) H_this_survey rfl rfl (Nat.le_of_ble_eq_true rfl) ⟨rfl, rfl⟩ ⟨Nat.zero_le _, Nat.zero_le _⟩ (fun h1 ⟨HS1, hfr⟩ => ?_)
    show eb_V _ _ 23 _ [.int (eb_I (if 6 ≤ sees.length then -1000000004 else (sees.length : Int) + 1))] _ _ _
    exact V_iret eX9_see_23 ⟨Nat.zero_le _, Nat.zero_le _⟩ rfl (rfl) (⟨rfl, rfl, ⟨HX.kept (hfr _ (by omega)) (hfr _ (by omega)), HT.kept (fun x a b => hfr x (by omega)), HY.kept (fun x a b => hfr x (by omega)), HP.kept (fun x a b => hfr x (by omega)), (hfr _ (by omega)).trans HD, HB.kept (fun x a b => hfr x (by omega)), HN.kept (fun x a b => hfr x (by omega)), HL.kept (hfr _ (by omega)) (fun x a b => hfr x (by omega)), ⟨fresh, tb, bf, HS1, hsu⟩, HI0.kept (fun x a b => hfr x (by omega)), HI1.kept (fun x a b => hfr x (by omega))⟩, fun k hk => hfr k (by omega)⟩)
  · exact absurd c_8 (by omega)
theorem x9_write_unk {k e : Int} (HR : XR h T ty fa past seed i0 i1 sees book) (HO : SOK T ty fa past seed i0 i1 sees book) (hk : -2147483648 ≤ k ∧ k ≤ 2147483647) (he : -2147483648 ≤ e ∧ e ≤ 2147483647) (hc : ¬ (-1 ≤ e ∧ e ≤ (T.1.length : Int))) : eb_T mX9_write [.ref 0, .int (eb_I k), .int (eb_I e)] n h (eb_G (some (.int (eb_I (-1000000001)))) n (fun h' => XR h' T ty fa past seed i0 i1 sees book ∧ F67 h h')) := by
  refine eb_T.of (by decide +kernel) (Nat.le_of_ble_eq_true rfl) ?_
  show eb_V _ _ 0 [.ref 0, .int (eb_I k), .int (eb_I e)] [] (n, 0, 0) h _
  have HR' := HR
  obtain ⟨HX, HT, HY, HP, HD, HB, HN, HL, HS, HI0, HI1⟩ := HR
  have H_this := HX.1
  have hN : T.1.length ≤ 40 := HO.1.1.1
  have hq := tx_lok HO.1
  obtain ⟨H_this_text, ftx, H_this_text_words, hftx⟩ := id HT
  obtain ⟨wc, lf, gty, H_this_typed, H_ty1, H_ty2, hlf⟩ := id HY
  obtain ⟨pnx, pf, H_this_past, pr⟩ := id HP
  obtain ⟨bkf, bkg, H_this_book, bkr⟩ := id HB
  obtain ⟨ro, pl, to, ow, lb, HLN, hpl, hto, how, hlb⟩ := id HN
  obtain ⟨H_this_now, H_np, H_this_now_total, H_this_now_owner, H_nlb, H_nro, H_nrt⟩ := id HLN
  obtain ⟨fresh, tb, bf, HSU, hsu⟩ := id HS
  have H_this_survey := HSU.1
  obtain ⟨hB1, hB2⟩ := lt_B_up hq
  have hBl := br_len hB1 hB2
  simp only at hB1 hBl
  refine V_iload_n eX9_write_0 rfl rfl ?_
  refine V_iconst eX9_write_1 ?_
  refine V_icmp_eq (tgt := 19) eX9_write_2 rfl (by omega) (fun c_2 => ?_) (fun c_2 => ?_)
  · exact absurd c_2 (by omega)
  · refine V_aload_n eX9_write_5 rfl rfl ?_
    refine V_getf eX9_write_6 H_this rfl ?_
    refine V_iload_n eX9_write_9 rfl rfl ?_
    refine V_cvi eX9_write_10 (c_X7_hasEnd HT hN he) H_this_text rfl rfl (Nat.le_of_ble_eq_true rfl) ⟨rfl, rfl⟩ ⟨Nat.zero_le _, Nat.zero_le _⟩ ?_
    rw [if_neg (by omega)]
    refine V_if_ne (tgt := 19) eX9_write_13 rfl (by omega) (fun c_13 => ?_) (fun c_13 => ?_)
    · exact absurd rfl c_13
    · refine V_ldc (a := -1000000001) eX9_write_16 wd_511 (by decide) ?_
      exact V_iret eX9_write_18 ⟨Nat.zero_le _, Nat.zero_le _⟩ rfl (rfl) (⟨rfl, rfl, HR', F67.rf⟩)
theorem x9_write_out {k e : Int} (HR : XR h T ty fa past seed i0 i1 sees book) (HO : SOK T ty fa past seed i0 i1 sees book) (hk : -2147483648 ≤ k ∧ k ≤ 2147483647) (hc : -1 ≤ e ∧ e ≤ (T.1.length : Int)) (hc2 : ¬ (0 ≤ k ∧ k < 40)) : eb_T mX9_write [.ref 0, .int (eb_I k), .int (eb_I e)] n h (eb_G (some (.int (eb_I (-1000000002)))) n (fun h' => XR h' T ty fa past seed i0 i1 sees book ∧ F67 h h')) := by
  refine eb_T.of (by decide +kernel) (Nat.le_of_ble_eq_true rfl) ?_
  show eb_V _ _ 0 [.ref 0, .int (eb_I k), .int (eb_I e)] [] (n, 0, 0) h _
  have HR' := HR
  obtain ⟨HX, HT, HY, HP, HD, HB, HN, HL, HS, HI0, HI1⟩ := HR
  have H_this := HX.1
  have hN : T.1.length ≤ 40 := HO.1.1.1
  have hq := tx_lok HO.1
  obtain ⟨H_this_text, ftx, H_this_text_words, hftx⟩ := id HT
  obtain ⟨wc, lf, gty, H_this_typed, H_ty1, H_ty2, hlf⟩ := id HY
  obtain ⟨pnx, pf, H_this_past, pr⟩ := id HP
  obtain ⟨bkf, bkg, H_this_book, bkr⟩ := id HB
  obtain ⟨ro, pl, to, ow, lb, HLN, hpl, hto, how, hlb⟩ := id HN
  obtain ⟨H_this_now, H_np, H_this_now_total, H_this_now_owner, H_nlb, H_nro, H_nrt⟩ := id HLN
  obtain ⟨fresh, tb, bf, HSU, hsu⟩ := id HS
  have H_this_survey := HSU.1
  obtain ⟨hB1, hB2⟩ := lt_B_up hq
  have hBl := br_len hB1 hB2
  simp only at hB1 hBl
  by_cases c1 : e = -1
  · refine V_iload_n eX9_write_0 rfl rfl ?_
    refine V_iconst eX9_write_1 ?_
    refine V_icmp_eq (tgt := 19) eX9_write_2 rfl (by omega) (fun c_2 => ?_) (fun c_2 => ?_)
    · refine V_iload_n eX9_write_19 rfl rfl ?_
      refine V_if_lt (tgt := 29) eX9_write_20 rfl (by omega) (fun c_20 => ?_) (fun c_20 => ?_)
      · refine V_ldc (a := -1000000002) eX9_write_29 wd_376 (by decide) ?_
        exact V_iret eX9_write_31 ⟨Nat.zero_le _, Nat.zero_le _⟩ rfl (rfl) (⟨rfl, rfl, HR', F67.rf⟩)
      · refine V_iload_n eX9_write_23 rfl rfl ?_
        refine V_bipush eX9_write_24 (by decide) ?_
        refine V_icmp_lt (tgt := 32) eX9_write_26 rfl (by omega) (fun c_26 => ?_) (fun c_26 => ?_)
        · exact absurd c_26 (by omega)
        · refine V_ldc (a := -1000000002) eX9_write_29 wd_376 (by decide) ?_
          exact V_iret eX9_write_31 ⟨Nat.zero_le _, Nat.zero_le _⟩ rfl (rfl) (⟨rfl, rfl, HR', F67.rf⟩)
    · exact absurd c1 c_2
  · refine V_iload_n eX9_write_0 rfl rfl ?_
    refine V_iconst eX9_write_1 ?_
    refine V_icmp_eq (tgt := 19) eX9_write_2 rfl (by omega) (fun c_2 => ?_) (fun c_2 => ?_)
    · exact absurd c_2 c1
    · refine V_aload_n eX9_write_5 rfl rfl ?_
      refine V_getf eX9_write_6 H_this rfl ?_
      refine V_iload_n eX9_write_9 rfl rfl ?_
      refine V_cvi eX9_write_10 (c_X7_hasEnd HT hN (by omega)) H_this_text rfl rfl (Nat.le_of_ble_eq_true rfl) ⟨rfl, rfl⟩ ⟨Nat.zero_le _, Nat.zero_le _⟩ ?_
      rw [if_pos (by omega)]
      refine V_if_ne (tgt := 19) eX9_write_13 rfl (by omega) (fun c_13 => ?_) (fun c_13 => ?_)
      · refine V_iload_n eX9_write_19 rfl rfl ?_
        refine V_if_lt (tgt := 29) eX9_write_20 rfl (by omega) (fun c_20 => ?_) (fun c_20 => ?_)
        · refine V_ldc (a := -1000000002) eX9_write_29 wd_376 (by decide) ?_
          exact V_iret eX9_write_31 ⟨Nat.zero_le _, Nat.zero_le _⟩ rfl (rfl) (⟨rfl, rfl, HR', F67.rf⟩)
        · refine V_iload_n eX9_write_23 rfl rfl ?_
          refine V_bipush eX9_write_24 (by decide) ?_
          refine V_icmp_lt (tgt := 32) eX9_write_26 rfl (by omega) (fun c_26 => ?_) (fun c_26 => ?_)
          · exact absurd c_26 (by omega)
          · refine V_ldc (a := -1000000002) eX9_write_29 wd_376 (by decide) ?_
            exact V_iret eX9_write_31 ⟨Nat.zero_le _, Nat.zero_le _⟩ rfl (rfl) (⟨rfl, rfl, HR', F67.rf⟩)
      · exact absurd c_13 (by omega)
theorem x9_write_ok {k e : Int} (HR : XR h T ty fa past seed i0 i1 sees book) (HO : SOK T ty fa past seed i0 i1 sees book) (hc : -1 ≤ e ∧ e ≤ (T.1.length : Int)) (hc2 : 0 ≤ k ∧ k < 40) : eb_T mX9_write [.ref 0, .int (eb_I k), .int (eb_I e)] n h (eb_G (some (.int (eb_I (if 20 ≤ book.length then -1000000004 else (book.length : Int) + 1)))) n (fun h' => XR h' T ty fa past seed i0 i1 sees (if 20 ≤ book.length then book else book ++ [(k, e)]) ∧ F67 h h')) := by
  refine eb_T.of (by decide +kernel) (Nat.le_of_ble_eq_true rfl) ?_
  show eb_V _ _ 0 [.ref 0, .int (eb_I k), .int (eb_I e)] [] (n, 0, 0) h _
  have HR' := HR
  obtain ⟨HX, HT, HY, HP, HD, HB, HN, HL, HS, HI0, HI1⟩ := HR
  have H_this := HX.1
  have hN : T.1.length ≤ 40 := HO.1.1.1
  have hq := tx_lok HO.1
  obtain ⟨H_this_text, ftx, H_this_text_words, hftx⟩ := id HT
  obtain ⟨wc, lf, gty, H_this_typed, H_ty1, H_ty2, hlf⟩ := id HY
  obtain ⟨pnx, pf, H_this_past, pr⟩ := id HP
  obtain ⟨bkf, bkg, H_this_book, bkr⟩ := id HB
  obtain ⟨ro, pl, to, ow, lb, HLN, hpl, hto, how, hlb⟩ := id HN
  obtain ⟨H_this_now, H_np, H_this_now_total, H_this_now_owner, H_nlb, H_nro, H_nrt⟩ := id HLN
  obtain ⟨fresh, tb, bf, HSU, hsu⟩ := id HS
  have H_this_survey := HSU.1
  obtain ⟨hB1, hB2⟩ := lt_B_up hq
  have hBl := br_len hB1 hB2
  simp only at hB1 hBl
  by_cases c1 : e = -1
  · refine V_iload_n eX9_write_0 rfl rfl ?_
    refine V_iconst eX9_write_1 ?_
    refine V_icmp_eq (tgt := 19) eX9_write_2 rfl (by omega) (fun c_2 => ?_) (fun c_2 => ?_)
    · refine V_iload_n eX9_write_19 rfl rfl ?_
      refine V_if_lt (tgt := 29) eX9_write_20 rfl (by omega) (fun c_20 => ?_) (fun c_20 => ?_)
      · exact absurd c_20 (by omega)
      · refine V_iload_n eX9_write_23 rfl rfl ?_
        refine V_bipush eX9_write_24 (by decide) ?_
        refine V_icmp_lt (tgt := 32) eX9_write_26 rfl (by omega) (fun c_26 => ?_) (fun c_26 => ?_)
        · refine V_aload_n eX9_write_32 rfl rfl ?_
          refine V_getf eX9_write_33 H_this rfl ?_
          refine V_iload_n eX9_write_36 rfl rfl ?_
          refine V_iload_n eX9_write_37 rfl rfl ?_
          refine V_cvg eX9_write_38 (c_X0_add HB HO.2.2.2.2.2.2.2.2.1) H_this_book rfl rfl (Nat.le_of_ble_eq_true rfl) ⟨rfl, rfl⟩ ⟨Nat.zero_le _, Nat.zero_le _⟩ (fun h1 ⟨HB1, hfr⟩ => ?_)
          show eb_V _ _ 41 _ [.int (eb_I (if 20 ≤ book.length then -1000000004 else (book.length : Int) + 1))] _ _ _
          exact V_iret eX9_write_41 ⟨Nat.zero_le _, Nat.zero_le _⟩ rfl (rfl) (⟨rfl, rfl, ⟨HX.kept (hfr _ (by omega)) (hfr _ (by omega)), HT.kept (fun x a b => hfr x (by omega)), HY.kept (fun x a b => hfr x (by omega)), HP.kept (fun x a b => hfr x (by omega)), (hfr _ (by omega)).trans HD, HB1, HN.kept (fun x a b => hfr x (by omega)), HL.kept (hfr _ (by omega)) (fun x a b => hfr x (by omega)), HS.kept (fun x a b => hfr x (by omega)), HI0.kept (fun x a b => hfr x (by omega)), HI1.kept (fun x a b => hfr x (by omega))⟩, fun k hk => hfr k (by omega)⟩)
        · exact absurd (by omega) c_26
    · exact absurd c1 c_2
  · refine V_iload_n eX9_write_0 rfl rfl ?_
    refine V_iconst eX9_write_1 ?_
    refine V_icmp_eq (tgt := 19) eX9_write_2 rfl (by omega) (fun c_2 => ?_) (fun c_2 => ?_)
    · exact absurd c_2 c1
    · refine V_aload_n eX9_write_5 rfl rfl ?_
      refine V_getf eX9_write_6 H_this rfl ?_
      refine V_iload_n eX9_write_9 rfl rfl ?_
      refine V_cvi eX9_write_10 (c_X7_hasEnd HT hN (by omega)) H_this_text rfl rfl (Nat.le_of_ble_eq_true rfl) ⟨rfl, rfl⟩ ⟨Nat.zero_le _, Nat.zero_le _⟩ ?_
      rw [if_pos (by omega)]
      refine V_if_ne (tgt := 19) eX9_write_13 rfl (by omega) (fun c_13 => ?_) (fun c_13 => ?_)
      · refine V_iload_n eX9_write_19 rfl rfl ?_
        refine V_if_lt (tgt := 29) eX9_write_20 rfl (by omega) (fun c_20 => ?_) (fun c_20 => ?_)
        · exact absurd c_20 (by omega)
        · refine V_iload_n eX9_write_23 rfl rfl ?_
          refine V_bipush eX9_write_24 (by decide) ?_
          refine V_icmp_lt (tgt := 32) eX9_write_26 rfl (by omega) (fun c_26 => ?_) (fun c_26 => ?_)
          · refine V_aload_n eX9_write_32 rfl rfl ?_
            refine V_getf eX9_write_33 H_this rfl ?_
            refine V_iload_n eX9_write_36 rfl rfl ?_
            refine V_iload_n eX9_write_37 rfl rfl ?_
            refine V_cvg eX9_write_38 (c_X0_add HB HO.2.2.2.2.2.2.2.2.1) H_this_book rfl rfl (Nat.le_of_ble_eq_true rfl) ⟨rfl, rfl⟩ ⟨Nat.zero_le _, Nat.zero_le _⟩ (fun h1 ⟨HB1, hfr⟩ => ?_)
            show eb_V _ _ 41 _ [.int (eb_I (if 20 ≤ book.length then -1000000004 else (book.length : Int) + 1))] _ _ _
            exact V_iret eX9_write_41 ⟨Nat.zero_le _, Nat.zero_le _⟩ rfl (rfl) (⟨rfl, rfl, ⟨HX.kept (hfr _ (by omega)) (hfr _ (by omega)), HT.kept (fun x a b => hfr x (by omega)), HY.kept (fun x a b => hfr x (by omega)), HP.kept (fun x a b => hfr x (by omega)), (hfr _ (by omega)).trans HD, HB1, HN.kept (fun x a b => hfr x (by omega)), HL.kept (hfr _ (by omega)) (fun x a b => hfr x (by omega)), HS.kept (fun x a b => hfr x (by omega)), HI0.kept (fun x a b => hfr x (by omega)), HI1.kept (fun x a b => hfr x (by omega))⟩, fun k hk => hfr k (by omega)⟩)
          · exact absurd (by omega) c_26
      · exact absurd c_13 (by omega)
theorem x9_tear (HR : XR h T ty fa past seed i0 i1 sees book) (HO : SOK T ty fa past seed i0 i1 sees book) : eb_T mX9_tear [.ref 0] n h (eb_G (some (.int (eb_I ((sees.length : Int) + (book.length : Int))))) n (fun h' => XR h' T ty fa past seed i0 i1 [] [] ∧ F67 h h')) := by
  refine eb_T.of (by decide +kernel) (Nat.le_of_ble_eq_true rfl) ?_
  show eb_V _ _ 0 [.ref 0, eb_no] [] (n, 0, 0) h _
  have HR' := HR
  obtain ⟨HX, HT, HY, HP, HD, HB, HN, HL, HS, HI0, HI1⟩ := HR
  have H_this := HX.1
  have hN : T.1.length ≤ 40 := HO.1.1.1
  have hq := tx_lok HO.1
  obtain ⟨H_this_text, ftx, H_this_text_words, hftx⟩ := id HT
  obtain ⟨wc, lf, gty, H_this_typed, H_ty1, H_ty2, hlf⟩ := id HY
  obtain ⟨pnx, pf, H_this_past, pr⟩ := id HP
  obtain ⟨bkf, bkg, H_this_book, bkr⟩ := id HB
  obtain ⟨ro, pl, to, ow, lb, HLN, hpl, hto, how, hlb⟩ := id HN
  obtain ⟨H_this_now, H_np, H_this_now_total, H_this_now_owner, H_nlb, H_nro, H_nrt⟩ := id HLN
  obtain ⟨fresh, tb, bf, HSU, hsu⟩ := id HS
  have H_this_survey := HSU.1
  obtain ⟨hB1, hB2⟩ := lt_B_up hq
  have hBl := br_len hB1 hB2
  simp only at hB1 hBl
  refine V_aload_n eX9_tear_0 rfl rfl ?_
  refine V_getf eX9_tear_1 H_this rfl ?_
  refine V_getf eX9_tear_4 H_this_survey rfl ?_
  refine V_aload_n eX9_tear_7 rfl rfl ?_
  refine V_getf eX9_tear_8 H_this rfl ?_
  refine V_getf eX9_tear_11 H_this_book rfl ?_
  refine V_iadd eX9_tear_14 ?_
  refine V_istore_n eX9_tear_15 rfl (Nat.le_of_ble_eq_true rfl) rfl (eb_sS eb_s0) ?_
  refine V_aload_n eX9_tear_16 rfl rfl ?_
  refine V_getf eX9_tear_17 H_this rfl ?_
  refine V_cvg eX9_tear_20 (c_X6_forget HSU) H_this_survey rfl rfl (Nat.le_of_ble_eq_true rfl) ⟨rfl, rfl⟩ ⟨Nat.zero_le _, Nat.zero_le _⟩ (fun h1 ⟨HS1, hfr⟩ => ?_)
  show eb_V _ _ 23 _ [] _ _ _
  have H_this : h1 0 = _ := (hfr 0 (by omega)).trans H_this
  have H_this_book : h1 42 = _ := (hfr 42 (by omega)).trans H_this_book
  refine V_aload_n eX9_tear_23 rfl rfl ?_
  refine V_getf eX9_tear_24 H_this rfl ?_
  refine V_iconst eX9_tear_27 ?_
  refine V_putf eX9_tear_28 H_this_book eb_fitI (eb_sS (eb_sS eb_s0)) (Nat.le_of_ble_eq_true rfl) ?_
  generalize hh2 : eb_up h1 42 _ = h2
  have k2 : ∀ k, k ≠ 42 → h2 k = h1 k := fun k hk => by rw [← hh2, eb_up, if_neg hk]
  have kb : h2 42 = bk_obj 42 0 := by rw [← hh2]; exact eb_up_s
  have kp : ∀ k, k ≠ 42 → k ≠ 58 → h2 k = h k := fun k a b => (k2 k a).trans (hfr k b)
  refine V_iload_n eX9_tear_31 rfl rfl ?_
  exact V_iret eX9_tear_32 ⟨Nat.zero_le _, Nat.zero_le _⟩ rfl (rfl) (⟨rfl, rfl, ⟨HX.kept (kp _ (by omega) (by omega)) (kp _ (by omega) (by omega)), HT.kept (fun x a b => kp x (by omega) (by omega)), HY.kept (fun x a b => kp x (by omega) (by omega)), HP.kept (fun x a b => kp x (by omega) (by omega)), (kp _ (by omega) (by omega)).trans HD, ⟨bkf, bkg, kb, (kp _ (by omega) (by omega)).trans bkr.1, (kp _ (by omega) (by omega)).trans bkr.2.1, fun j hj => absurd hj (by simp)⟩, HN.kept (fun x a b => kp x (by omega) (by omega)), HL.kept (kp _ (by omega) (by omega)) (fun x a b => kp x (by omega) (by omega)), ⟨fresh, tb, bf, HS1.kept (fun x a b => k2 x (by omega)), hsu⟩, HI0.kept (fun x a b => kp x (by omega) (by omega)), HI1.kept (fun x a b => kp x (by omega) (by omega))⟩, fun k hk => kp k (by omega) (by omega)⟩)
theorem x9_told_0 (HR : XR h T ty fa past seed i0 i1 sees book) (HO : SOK T ty fa past seed i0 i1 sees book) : eb_T mX9_told [.ref 0, .int (eb_I 0)] n h (eb_G (some (.int (eb_I ((T.1.length : Int))))) n (fun h' => XR h' T ty fa past seed i0 i1 sees book ∧ F67 h h')) := by
  refine eb_T.of (by decide +kernel) (Nat.le_of_ble_eq_true rfl) ?_
  show eb_V _ _ 0 [.ref 0, .int (eb_I 0)] [] (n, 0, 0) h _
  have HR' := HR
  obtain ⟨HX, HT, HY, HP, HD, HB, HN, HL, HS, HI0, HI1⟩ := HR
  have H_this := HX.1
  have hN : T.1.length ≤ 40 := HO.1.1.1
  have hq := tx_lok HO.1
  obtain ⟨H_this_text, ftx, H_this_text_words, hftx⟩ := id HT
  obtain ⟨wc, lf, gty, H_this_typed, H_ty1, H_ty2, hlf⟩ := id HY
  obtain ⟨pnx, pf, H_this_past, pr⟩ := id HP
  obtain ⟨bkf, bkg, H_this_book, bkr⟩ := id HB
  obtain ⟨ro, pl, to, ow, lb, HLN, hpl, hto, how, hlb⟩ := id HN
  obtain ⟨H_this_now, H_np, H_this_now_total, H_this_now_owner, H_nlb, H_nro, H_nrt⟩ := id HLN
  obtain ⟨fresh, tb, bf, HSU, hsu⟩ := id HS
  have H_this_survey := HSU.1
  obtain ⟨hB1, hB2⟩ := lt_B_up hq
  have hBl := br_len hB1 hB2
  simp only at hB1 hBl
  refine V_iload_n eX9_told_0 rfl rfl ?_
  refine V_tswIn (tgt := 92) (off := 91) eX9_told_1 (by omega) (by omega) rfl rfl ?_
  refine V_aload_n eX9_told_92 rfl rfl ?_
  refine V_getf eX9_told_93 H_this rfl ?_
  refine V_getf eX9_told_96 H_this_text rfl ?_
  exact V_iret eX9_told_99 ⟨Nat.zero_le _, Nat.zero_le _⟩ rfl (rfl) (⟨rfl, rfl, HR', F67.rf⟩)
theorem x9_told_1 (HR : XR h T ty fa past seed i0 i1 sees book) (HO : SOK T ty fa past seed i0 i1 sees book) : eb_T mX9_told [.ref 0, .int (eb_I 1)] n h (eb_G (some (.int (eb_I (T.2.1)))) n (fun h' => XR h' T ty fa past seed i0 i1 sees book ∧ F67 h h')) := by
  refine eb_T.of (by decide +kernel) (Nat.le_of_ble_eq_true rfl) ?_
  show eb_V _ _ 0 [.ref 0, .int (eb_I 1)] [] (n, 0, 0) h _
  have HR' := HR
  obtain ⟨HX, HT, HY, HP, HD, HB, HN, HL, HS, HI0, HI1⟩ := HR
  have H_this := HX.1
  have hN : T.1.length ≤ 40 := HO.1.1.1
  have hq := tx_lok HO.1
  obtain ⟨H_this_text, ftx, H_this_text_words, hftx⟩ := id HT
  obtain ⟨wc, lf, gty, H_this_typed, H_ty1, H_ty2, hlf⟩ := id HY
  obtain ⟨pnx, pf, H_this_past, pr⟩ := id HP
  obtain ⟨bkf, bkg, H_this_book, bkr⟩ := id HB
  obtain ⟨ro, pl, to, ow, lb, HLN, hpl, hto, how, hlb⟩ := id HN
  obtain ⟨H_this_now, H_np, H_this_now_total, H_this_now_owner, H_nlb, H_nro, H_nrt⟩ := id HLN
  obtain ⟨fresh, tb, bf, HSU, hsu⟩ := id HS
  have H_this_survey := HSU.1
  obtain ⟨hB1, hB2⟩ := lt_B_up hq
  have hBl := br_len hB1 hB2
  simp only at hB1 hBl
  refine V_iload_n eX9_told_0 rfl rfl ?_
  refine V_tswIn (tgt := 100) (off := 99) eX9_told_1 (by omega) (by omega) rfl rfl ?_
  refine V_aload_n eX9_told_100 rfl rfl ?_
  refine V_getf eX9_told_101 H_this rfl ?_
  refine V_getf eX9_told_104 H_this_text rfl ?_
  exact V_iret eX9_told_107 ⟨Nat.zero_le _, Nat.zero_le _⟩ rfl (rfl) (⟨rfl, rfl, HR', F67.rf⟩)
theorem x9_told_2 (HR : XR h T ty fa past seed i0 i1 sees book) (HO : SOK T ty fa past seed i0 i1 sees book) : eb_T mX9_told [.ref 0, .int (eb_I 2)] n h (eb_G (some (.int (eb_I (T.2.2.1)))) n (fun h' => XR h' T ty fa past seed i0 i1 sees book ∧ F67 h h')) := by
  refine eb_T.of (by decide +kernel) (Nat.le_of_ble_eq_true rfl) ?_
  show eb_V _ _ 0 [.ref 0, .int (eb_I 2)] [] (n, 0, 0) h _
  have HR' := HR
  obtain ⟨HX, HT, HY, HP, HD, HB, HN, HL, HS, HI0, HI1⟩ := HR
  have H_this := HX.1
  have hN : T.1.length ≤ 40 := HO.1.1.1
  have hq := tx_lok HO.1
  obtain ⟨H_this_text, ftx, H_this_text_words, hftx⟩ := id HT
  obtain ⟨wc, lf, gty, H_this_typed, H_ty1, H_ty2, hlf⟩ := id HY
  obtain ⟨pnx, pf, H_this_past, pr⟩ := id HP
  obtain ⟨bkf, bkg, H_this_book, bkr⟩ := id HB
  obtain ⟨ro, pl, to, ow, lb, HLN, hpl, hto, how, hlb⟩ := id HN
  obtain ⟨H_this_now, H_np, H_this_now_total, H_this_now_owner, H_nlb, H_nro, H_nrt⟩ := id HLN
  obtain ⟨fresh, tb, bf, HSU, hsu⟩ := id HS
  have H_this_survey := HSU.1
  obtain ⟨hB1, hB2⟩ := lt_B_up hq
  have hBl := br_len hB1 hB2
  simp only at hB1 hBl
  refine V_iload_n eX9_told_0 rfl rfl ?_
  refine V_tswIn (tgt := 108) (off := 107) eX9_told_1 (by omega) (by omega) rfl rfl ?_
  refine V_aload_n eX9_told_108 rfl rfl ?_
  refine V_getf eX9_told_109 H_this rfl ?_
  refine V_getf eX9_told_112 H_this_text rfl ?_
  exact V_iret eX9_told_115 ⟨Nat.zero_le _, Nat.zero_le _⟩ rfl (rfl) (⟨rfl, rfl, HR', F67.rf⟩)
theorem x9_told_3 (HR : XR h T ty fa past seed i0 i1 sees book) (HO : SOK T ty fa past seed i0 i1 sees book) : eb_T mX9_told [.ref 0, .int (eb_I 3)] n h (eb_G (some (.int (eb_I (T.2.2.2.1)))) n (fun h' => XR h' T ty fa past seed i0 i1 sees book ∧ F67 h h')) := by
  refine eb_T.of (by decide +kernel) (Nat.le_of_ble_eq_true rfl) ?_
  show eb_V _ _ 0 [.ref 0, .int (eb_I 3)] [] (n, 0, 0) h _
  have HR' := HR
  obtain ⟨HX, HT, HY, HP, HD, HB, HN, HL, HS, HI0, HI1⟩ := HR
  have H_this := HX.1
  have hN : T.1.length ≤ 40 := HO.1.1.1
  have hq := tx_lok HO.1
  obtain ⟨H_this_text, ftx, H_this_text_words, hftx⟩ := id HT
  obtain ⟨wc, lf, gty, H_this_typed, H_ty1, H_ty2, hlf⟩ := id HY
  obtain ⟨pnx, pf, H_this_past, pr⟩ := id HP
  obtain ⟨bkf, bkg, H_this_book, bkr⟩ := id HB
  obtain ⟨ro, pl, to, ow, lb, HLN, hpl, hto, how, hlb⟩ := id HN
  obtain ⟨H_this_now, H_np, H_this_now_total, H_this_now_owner, H_nlb, H_nro, H_nrt⟩ := id HLN
  obtain ⟨fresh, tb, bf, HSU, hsu⟩ := id HS
  have H_this_survey := HSU.1
  obtain ⟨hB1, hB2⟩ := lt_B_up hq
  have hBl := br_len hB1 hB2
  simp only at hB1 hBl
  refine V_iload_n eX9_told_0 rfl rfl ?_
  refine V_tswIn (tgt := 116) (off := 115) eX9_told_1 (by omega) (by omega) rfl rfl ?_
  refine V_aload_n eX9_told_116 rfl rfl ?_
  refine V_getf eX9_told_117 H_this rfl ?_
  refine V_getf eX9_told_120 H_this_text rfl ?_
  exact V_iret eX9_told_123 ⟨Nat.zero_le _, Nat.zero_le _⟩ rfl (rfl) (⟨rfl, rfl, HR', F67.rf⟩)
theorem x9_told_5 (HR : XR h T ty fa past seed i0 i1 sees book) (HO : SOK T ty fa past seed i0 i1 sees book) : eb_T mX9_told [.ref 0, .int (eb_I 5)] n h (eb_G (some (.int (eb_I ((ty.length : Int))))) n (fun h' => XR h' T ty fa past seed i0 i1 sees book ∧ F67 h h')) := by
  refine eb_T.of (by decide +kernel) (Nat.le_of_ble_eq_true rfl) ?_
  show eb_V _ _ 0 [.ref 0, .int (eb_I 5)] [] (n, 0, 0) h _
  have HR' := HR
  obtain ⟨HX, HT, HY, HP, HD, HB, HN, HL, HS, HI0, HI1⟩ := HR
  have H_this := HX.1
  have hN : T.1.length ≤ 40 := HO.1.1.1
  have hq := tx_lok HO.1
  obtain ⟨H_this_text, ftx, H_this_text_words, hftx⟩ := id HT
  obtain ⟨wc, lf, gty, H_this_typed, H_ty1, H_ty2, hlf⟩ := id HY
  obtain ⟨pnx, pf, H_this_past, pr⟩ := id HP
  obtain ⟨bkf, bkg, H_this_book, bkr⟩ := id HB
  obtain ⟨ro, pl, to, ow, lb, HLN, hpl, hto, how, hlb⟩ := id HN
  obtain ⟨H_this_now, H_np, H_this_now_total, H_this_now_owner, H_nlb, H_nro, H_nrt⟩ := id HLN
  obtain ⟨fresh, tb, bf, HSU, hsu⟩ := id HS
  have H_this_survey := HSU.1
  obtain ⟨hB1, hB2⟩ := lt_B_up hq
  have hBl := br_len hB1 hB2
  simp only at hB1 hBl
  refine V_iload_n eX9_told_0 rfl rfl ?_
  refine V_tswIn (tgt := 140) (off := 139) eX9_told_1 (by omega) (by omega) rfl rfl ?_
  refine V_aload_n eX9_told_140 rfl rfl ?_
  refine V_getf eX9_told_141 H_this rfl ?_
  refine V_getf eX9_told_144 H_this_typed rfl ?_
  exact V_iret eX9_told_147 ⟨Nat.zero_le _, Nat.zero_le _⟩ rfl (rfl) (⟨rfl, rfl, HR', F67.rf⟩)
theorem x9_told_11 (HR : XR h T ty fa past seed i0 i1 sees book) (HO : SOK T ty fa past seed i0 i1 sees book) : eb_T mX9_told [.ref 0, .int (eb_I 11)] n h (eb_G (some (.int (eb_I ((sees.length : Int))))) n (fun h' => XR h' T ty fa past seed i0 i1 sees book ∧ F67 h h')) := by
  refine eb_T.of (by decide +kernel) (Nat.le_of_ble_eq_true rfl) ?_
  show eb_V _ _ 0 [.ref 0, .int (eb_I 11)] [] (n, 0, 0) h _
  have HR' := HR
  obtain ⟨HX, HT, HY, HP, HD, HB, HN, HL, HS, HI0, HI1⟩ := HR
  have H_this := HX.1
  have hN : T.1.length ≤ 40 := HO.1.1.1
  have hq := tx_lok HO.1
  obtain ⟨H_this_text, ftx, H_this_text_words, hftx⟩ := id HT
  obtain ⟨wc, lf, gty, H_this_typed, H_ty1, H_ty2, hlf⟩ := id HY
  obtain ⟨pnx, pf, H_this_past, pr⟩ := id HP
  obtain ⟨bkf, bkg, H_this_book, bkr⟩ := id HB
  obtain ⟨ro, pl, to, ow, lb, HLN, hpl, hto, how, hlb⟩ := id HN
  obtain ⟨H_this_now, H_np, H_this_now_total, H_this_now_owner, H_nlb, H_nro, H_nrt⟩ := id HLN
  obtain ⟨fresh, tb, bf, HSU, hsu⟩ := id HS
  have H_this_survey := HSU.1
  obtain ⟨hB1, hB2⟩ := lt_B_up hq
  have hBl := br_len hB1 hB2
  simp only at hB1 hBl
  refine V_iload_n eX9_told_0 rfl rfl ?_
  refine V_tswIn (tgt := 208) (off := 207) eX9_told_1 (by omega) (by omega) rfl rfl ?_
  refine V_aload_n eX9_told_208 rfl rfl ?_
  refine V_getf eX9_told_209 H_this rfl ?_
  refine V_getf eX9_told_212 H_this_survey rfl ?_
  exact V_iret eX9_told_215 ⟨Nat.zero_le _, Nat.zero_le _⟩ rfl (rfl) (⟨rfl, rfl, HR', F67.rf⟩)
theorem x9_told_16 (HR : XR h T ty fa past seed i0 i1 sees book) (HO : SOK T ty fa past seed i0 i1 sees book) : eb_T mX9_told [.ref 0, .int (eb_I 16)] n h (eb_G (some (.int (eb_I ((book.length : Int))))) n (fun h' => XR h' T ty fa past seed i0 i1 sees book ∧ F67 h h')) := by
  refine eb_T.of (by decide +kernel) (Nat.le_of_ble_eq_true rfl) ?_
  show eb_V _ _ 0 [.ref 0, .int (eb_I 16)] [] (n, 0, 0) h _
  have HR' := HR
  obtain ⟨HX, HT, HY, HP, HD, HB, HN, HL, HS, HI0, HI1⟩ := HR
  have H_this := HX.1
  have hN : T.1.length ≤ 40 := HO.1.1.1
  have hq := tx_lok HO.1
  obtain ⟨H_this_text, ftx, H_this_text_words, hftx⟩ := id HT
  obtain ⟨wc, lf, gty, H_this_typed, H_ty1, H_ty2, hlf⟩ := id HY
  obtain ⟨pnx, pf, H_this_past, pr⟩ := id HP
  obtain ⟨bkf, bkg, H_this_book, bkr⟩ := id HB
  obtain ⟨ro, pl, to, ow, lb, HLN, hpl, hto, how, hlb⟩ := id HN
  obtain ⟨H_this_now, H_np, H_this_now_total, H_this_now_owner, H_nlb, H_nro, H_nrt⟩ := id HLN
  obtain ⟨fresh, tb, bf, HSU, hsu⟩ := id HS
  have H_this_survey := HSU.1
  obtain ⟨hB1, hB2⟩ := lt_B_up hq
  have hBl := br_len hB1 hB2
  simp only at hB1 hBl
  refine V_iload_n eX9_told_0 rfl rfl ?_
  refine V_tswIn (tgt := 255) (off := 254) eX9_told_1 (by omega) (by omega) rfl rfl ?_
  refine V_aload_n eX9_told_255 rfl rfl ?_
  refine V_getf eX9_told_256 H_this rfl ?_
  refine V_getf eX9_told_259 H_this_book rfl ?_
  exact V_iret eX9_told_262 ⟨Nat.zero_le _, Nat.zero_le _⟩ rfl (rfl) (⟨rfl, rfl, HR', F67.rf⟩)
theorem x9_told_18 (HR : XR h T ty fa past seed i0 i1 sees book) (HO : SOK T ty fa past seed i0 i1 sees book) : eb_T mX9_told [.ref 0, .int (eb_I 18)] n h (eb_G (some (.int (eb_I ((past.length : Int))))) n (fun h' => XR h' T ty fa past seed i0 i1 sees book ∧ F67 h h')) := by
  refine eb_T.of (by decide +kernel) (Nat.le_of_ble_eq_true rfl) ?_
  show eb_V _ _ 0 [.ref 0, .int (eb_I 18)] [] (n, 0, 0) h _
  have HR' := HR
  obtain ⟨HX, HT, HY, HP, HD, HB, HN, HL, HS, HI0, HI1⟩ := HR
  have H_this := HX.1
  have hN : T.1.length ≤ 40 := HO.1.1.1
  have hq := tx_lok HO.1
  obtain ⟨H_this_text, ftx, H_this_text_words, hftx⟩ := id HT
  obtain ⟨wc, lf, gty, H_this_typed, H_ty1, H_ty2, hlf⟩ := id HY
  obtain ⟨pnx, pf, H_this_past, pr⟩ := id HP
  obtain ⟨bkf, bkg, H_this_book, bkr⟩ := id HB
  obtain ⟨ro, pl, to, ow, lb, HLN, hpl, hto, how, hlb⟩ := id HN
  obtain ⟨H_this_now, H_np, H_this_now_total, H_this_now_owner, H_nlb, H_nro, H_nrt⟩ := id HLN
  obtain ⟨fresh, tb, bf, HSU, hsu⟩ := id HS
  have H_this_survey := HSU.1
  obtain ⟨hB1, hB2⟩ := lt_B_up hq
  have hBl := br_len hB1 hB2
  simp only at hB1 hBl
  refine V_iload_n eX9_told_0 rfl rfl ?_
  refine V_tswIn (tgt := 275) (off := 274) eX9_told_1 (by omega) (by omega) rfl rfl ?_
  refine V_aload_n eX9_told_275 rfl rfl ?_
  refine V_getf eX9_told_276 H_this rfl ?_
  refine V_getf eX9_told_279 H_this_past rfl ?_
  exact V_iret eX9_told_282 ⟨Nat.zero_le _, Nat.zero_le _⟩ rfl (rfl) (⟨rfl, rfl, HR', F67.rf⟩)
theorem x9_told_7 (HR : XR h T ty fa past seed i0 i1 sees book) (HO : SOK T ty fa past seed i0 i1 sees book) : eb_T mX9_told [.ref 0, .int (eb_I 7)] n h (eb_G (some (.int (eb_I (((lt_B (txq T)).length : Int))))) n (fun h' => XR h' T ty fa past seed i0 i1 sees book ∧ F67 h h')) := by
  refine eb_T.of (by decide +kernel) (Nat.le_of_ble_eq_true rfl) ?_
  show eb_V _ _ 0 [.ref 0, .int (eb_I 7)] [] (n, 0, 0) h _
  have HR' := HR
  obtain ⟨HX, HT, HY, HP, HD, HB, HN, HL, HS, HI0, HI1⟩ := HR
  have H_this := HX.1
  have hN : T.1.length ≤ 40 := HO.1.1.1
  have hq := tx_lok HO.1
  obtain ⟨H_this_text, ftx, H_this_text_words, hftx⟩ := id HT
  obtain ⟨wc, lf, gty, H_this_typed, H_ty1, H_ty2, hlf⟩ := id HY
  obtain ⟨pnx, pf, H_this_past, pr⟩ := id HP
  obtain ⟨bkf, bkg, H_this_book, bkr⟩ := id HB
  obtain ⟨ro, pl, to, ow, lb, HLN, hpl, hto, how, hlb⟩ := id HN
  obtain ⟨H_this_now, H_np, H_this_now_total, H_this_now_owner, H_nlb, H_nro, H_nrt⟩ := id HLN
  obtain ⟨fresh, tb, bf, HSU, hsu⟩ := id HS
  have H_this_survey := HSU.1
  obtain ⟨hB1, hB2⟩ := lt_B_up hq
  have hBl := br_len hB1 hB2
  simp only at hB1 hBl
  refine V_iload_n eX9_told_0 rfl rfl ?_
  refine V_tswIn (tgt := 156) (off := 155) eX9_told_1 (by omega) (by omega) rfl rfl ?_
  refine V_aload_n eX9_told_156 rfl rfl ?_
  refine V_getf eX9_told_157 H_this rfl ?_
  refine V_getf eX9_told_160 H_this_now rfl ?_
  exact V_iret eX9_told_163 ⟨Nat.zero_le _, Nat.zero_le _⟩ rfl (rfl) (⟨rfl, rfl, HR', F67.rf⟩)
theorem x9_told_4 (HR : XR h T ty fa past seed i0 i1 sees book) (HO : SOK T ty fa past seed i0 i1 sees book) : eb_T mX9_told [.ref 0, .int (eb_I 4)] n h (eb_G (some (.int (eb_I (T.2.2.2.2)))) n (fun h' => XR h' T ty fa past seed i0 i1 sees book ∧ F67 h h')) := by
  refine eb_T.of (by decide +kernel) (Nat.le_of_ble_eq_true rfl) ?_
  show eb_V _ _ 0 [.ref 0, .int (eb_I 4)] [] (n, 0, 0) h _
  have HR' := HR
  obtain ⟨HX, HT, HY, HP, HD, HB, HN, HL, HS, HI0, HI1⟩ := HR
  have H_this := HX.1
  have hN : T.1.length ≤ 40 := HO.1.1.1
  have hq := tx_lok HO.1
  obtain ⟨H_this_text, ftx, H_this_text_words, hftx⟩ := id HT
  obtain ⟨wc, lf, gty, H_this_typed, H_ty1, H_ty2, hlf⟩ := id HY
  obtain ⟨pnx, pf, H_this_past, pr⟩ := id HP
  obtain ⟨bkf, bkg, H_this_book, bkr⟩ := id HB
  obtain ⟨ro, pl, to, ow, lb, HLN, hpl, hto, how, hlb⟩ := id HN
  obtain ⟨H_this_now, H_np, H_this_now_total, H_this_now_owner, H_nlb, H_nro, H_nrt⟩ := id HLN
  obtain ⟨fresh, tb, bf, HSU, hsu⟩ := id HS
  have H_this_survey := HSU.1
  obtain ⟨hB1, hB2⟩ := lt_B_up hq
  have hBl := br_len hB1 hB2
  simp only at hB1 hBl
  have hfr := HO.1.1.2.2.2.2
  rcases hfr with hfr | hfr
  · rw [hfr] at H_this_text ⊢
    refine V_iload_n eX9_told_0 rfl rfl ?_
    refine V_tswIn (tgt := 124) (off := 123) eX9_told_1 (by omega) (by omega) rfl rfl ?_
    refine V_aload_n eX9_told_124 rfl rfl ?_
    refine V_getf eX9_told_125 H_this rfl ?_
    refine V_getf eX9_told_128 H_this_text rfl ?_
    refine V_if_eq (tgt := 138) eX9_told_131 rfl (by omega) (fun c_131 => ?_) (fun c_131 => ?_)
    · refine V_iconst eX9_told_138 ?_
      exact V_iret eX9_told_139 ⟨Nat.zero_le _, Nat.zero_le _⟩ rfl (rfl) (⟨rfl, rfl, HR', F67.rf⟩)
    · exact absurd rfl c_131
  · rw [hfr] at H_this_text ⊢
    refine V_iload_n eX9_told_0 rfl rfl ?_
    refine V_tswIn (tgt := 124) (off := 123) eX9_told_1 (by omega) (by omega) rfl rfl ?_
    refine V_aload_n eX9_told_124 rfl rfl ?_
    refine V_getf eX9_told_125 H_this rfl ?_
    refine V_getf eX9_told_128 H_this_text rfl ?_
    refine V_if_eq (tgt := 138) eX9_told_131 rfl (by omega) (fun c_131 => ?_) (fun c_131 => ?_)
    · exact absurd c_131 (by omega)
    · refine V_iconst eX9_told_134 ?_
      refine V_goto (tgt := 139) eX9_told_135 rfl ?_
      exact V_iret eX9_told_139 ⟨Nat.zero_le _, Nat.zero_le _⟩ rfl (rfl) (⟨rfl, rfl, HR', F67.rf⟩)
theorem x9_told_6 (HR : XR h T ty fa past seed i0 i1 sees book) (HO : SOK T ty fa past seed i0 i1 sees book) : eb_T mX9_told [.ref 0, .int (eb_I 6)] n h (eb_G (some (.int (eb_I (dp_t (lt_c (txq T)) T.1.length)))) n (fun h' => XR h' T ty fa past seed i0 i1 sees book ∧ F67 h h')) := by
  refine eb_T.of (by decide +kernel) (Nat.le_of_ble_eq_true rfl) ?_
  show eb_V _ _ 0 [.ref 0, .int (eb_I 6)] [] (n, 0, 0) h _
  have HR' := HR
  obtain ⟨HX, HT, HY, HP, HD, HB, HN, HL, HS, HI0, HI1⟩ := HR
  have H_this := HX.1
  have hN : T.1.length ≤ 40 := HO.1.1.1
  have hq := tx_lok HO.1
  obtain ⟨H_this_text, ftx, H_this_text_words, hftx⟩ := id HT
  obtain ⟨wc, lf, gty, H_this_typed, H_ty1, H_ty2, hlf⟩ := id HY
  obtain ⟨pnx, pf, H_this_past, pr⟩ := id HP
  obtain ⟨bkf, bkg, H_this_book, bkr⟩ := id HB
  obtain ⟨ro, pl, to, ow, lb, HLN, hpl, hto, how, hlb⟩ := id HN
  obtain ⟨H_this_now, H_np, H_this_now_total, H_this_now_owner, H_nlb, H_nro, H_nrt⟩ := id HLN
  obtain ⟨fresh, tb, bf, HSU, hsu⟩ := id HS
  have H_this_survey := HSU.1
  obtain ⟨hB1, hB2⟩ := lt_B_up hq
  have hBl := br_len hB1 hB2
  simp only at hB1 hBl
  have et : to T.1.length = dp_t (lt_c (txq T)) T.1.length := hto T.1.length (Nat.le_refl _)
  refine V_iload_n eX9_told_0 rfl rfl ?_
  refine V_tswIn (tgt := 148) (off := 147) eX9_told_1 (by omega) (by omega) rfl rfl ?_
  refine V_aload_n eX9_told_148 rfl rfl ?_
  refine V_getf eX9_told_149 H_this rfl ?_
  refine V_cvi eX9_told_152 (c_X3_lastTotal HLN hN) H_this_now rfl rfl (Nat.le_of_ble_eq_true rfl) ⟨rfl, rfl⟩ ⟨Nat.zero_le _, Nat.zero_le _⟩ ?_
  rw [et]
  exact V_iret eX9_told_155 ⟨Nat.zero_le _, Nat.zero_le _⟩ rfl (rfl) (⟨rfl, rfl, HR', F67.rf⟩)
theorem x9_told_8 {v : Int} (HR : XR h T ty fa past seed i0 i1 sees book) (HO : SOK T ty fa past seed i0 i1 sees book) (hv : lc (fc_4 (lt_c (txq T)) T.1.length 1) v) : eb_T mX9_told [.ref 0, .int (eb_I 8)] n h (eb_G (some (.int (eb_I (if v = -1 then 1 else 0)))) n (fun h' => XR h' T ty fa past seed i0 i1 sees book ∧ F67 h h')) := by
  refine eb_T.of (by decide +kernel) (Nat.le_of_ble_eq_true rfl) ?_
  show eb_V _ _ 0 [.ref 0, .int (eb_I 8)] [] (n, 0, 0) h _
  have HR' := HR
  obtain ⟨HX, HT, HY, HP, HD, HB, HN, HL, HS, HI0, HI1⟩ := HR
  have H_this := HX.1
  have hN : T.1.length ≤ 40 := HO.1.1.1
  have hq := tx_lok HO.1
  obtain ⟨H_this_text, ftx, H_this_text_words, hftx⟩ := id HT
  obtain ⟨wc, lf, gty, H_this_typed, H_ty1, H_ty2, hlf⟩ := id HY
  obtain ⟨pnx, pf, H_this_past, pr⟩ := id HP
  obtain ⟨bkf, bkg, H_this_book, bkr⟩ := id HB
  obtain ⟨ro, pl, to, ow, lb, HLN, hpl, hto, how, hlb⟩ := id HN
  obtain ⟨H_this_now, H_np, H_this_now_total, H_this_now_owner, H_nlb, H_nro, H_nrt⟩ := id HLN
  obtain ⟨fresh, tb, bf, HSU, hsu⟩ := id HS
  have H_this_survey := HSU.1
  obtain ⟨hB1, hB2⟩ := lt_B_up hq
  have hBl := br_len hB1 hB2
  simp only at hB1 hBl
  have hv' := hv
  have vr : -1 ≤ v ∧ v ≤ 2900000 := by
    rcases hv with ⟨q, -⟩ | ⟨m, ⟨a1, a2, a3, a4, b1, b2, b3, b4, b5, b6⟩, q, -⟩
    · omega
    · omega
  by_cases c : v = -1
  · rw [if_pos c]
    refine V_iload_n eX9_told_0 rfl rfl ?_
    refine V_tswIn (tgt := 164) (off := 163) eX9_told_1 (by omega) (by omega) rfl rfl ?_
    refine V_aload_n eX9_told_164 rfl rfl ?_
    refine V_getf eX9_told_165 H_this rfl ?_
    refine V_iconst eX9_told_168 ?_
    refine V_cvg eX9_told_169 (c_X3_firstCrossed HLN (by omega) hq hpl (by omega) hv') H_this_now rfl rfl (Nat.le_of_ble_eq_true rfl) ⟨rfl, rfl⟩ ⟨Nat.zero_le _, Nat.zero_le _⟩ (fun h1 ⟨⟨ro1, HL1⟩, hfr⟩ => ?_)
    show eb_V _ _ 172 _ [.int (eb_I v)] _ _ _
    refine V_iconst eX9_told_172 ?_
    refine V_icmp_ne (tgt := 180) eX9_told_173 rfl (by omega) (fun c_173 => ?_) (fun c_173 => ?_)
    · exact absurd c c_173
    · refine V_iconst eX9_told_176 ?_
      refine V_goto (tgt := 181) eX9_told_177 rfl ?_
      exact V_iret eX9_told_181 ⟨Nat.zero_le _, Nat.zero_le _⟩ rfl (rfl) (⟨rfl, rfl, HR'.re (fun x a b => hfr x (by omega)) (fun x a b => hfr x (by omega)) ⟨ro1, pl, to, ow, lb, HL1, hpl, hto, how, hlb⟩ (HL.kept (hfr _ (by omega)) (fun x a b => hfr x (by omega))) (HS.kept (fun x a b => hfr x (by omega))), fun k hk => hfr k (by omega)⟩)
  · rw [if_neg c]
    refine V_iload_n eX9_told_0 rfl rfl ?_
    refine V_tswIn (tgt := 164) (off := 163) eX9_told_1 (by omega) (by omega) rfl rfl ?_
    refine V_aload_n eX9_told_164 rfl rfl ?_
    refine V_getf eX9_told_165 H_this rfl ?_
    refine V_iconst eX9_told_168 ?_
    refine V_cvg eX9_told_169 (c_X3_firstCrossed HLN (by omega) hq hpl (by omega) hv') H_this_now rfl rfl (Nat.le_of_ble_eq_true rfl) ⟨rfl, rfl⟩ ⟨Nat.zero_le _, Nat.zero_le _⟩ (fun h1 ⟨⟨ro1, HL1⟩, hfr⟩ => ?_)
    show eb_V _ _ 172 _ [.int (eb_I v)] _ _ _
    refine V_iconst eX9_told_172 ?_
    refine V_icmp_ne (tgt := 180) eX9_told_173 rfl (by omega) (fun c_173 => ?_) (fun c_173 => ?_)
    · refine V_iconst eX9_told_180 ?_
      exact V_iret eX9_told_181 ⟨Nat.zero_le _, Nat.zero_le _⟩ rfl (rfl) (⟨rfl, rfl, HR'.re (fun x a b => hfr x (by omega)) (fun x a b => hfr x (by omega)) ⟨ro1, pl, to, ow, lb, HL1, hpl, hto, how, hlb⟩ (HL.kept (hfr _ (by omega)) (fun x a b => hfr x (by omega))) (HS.kept (fun x a b => hfr x (by omega))), fun k hk => hfr k (by omega)⟩)
    · exact absurd c_173 c
theorem x9_told_9 {v : Int} (HR : XR h T ty fa past seed i0 i1 sees book) (HO : SOK T ty fa past seed i0 i1 sees book) (hv : lc (fc_4 (lt_c (txq T)) T.1.length (-1)) v) : eb_T mX9_told [.ref 0, .int (eb_I 9)] n h (eb_G (some (.int (eb_I (if v = -1 then 1 else 0)))) n (fun h' => XR h' T ty fa past seed i0 i1 sees book ∧ F67 h h')) := by
  refine eb_T.of (by decide +kernel) (Nat.le_of_ble_eq_true rfl) ?_
  show eb_V _ _ 0 [.ref 0, .int (eb_I 9)] [] (n, 0, 0) h _
  have HR' := HR
  obtain ⟨HX, HT, HY, HP, HD, HB, HN, HL, HS, HI0, HI1⟩ := HR
  have H_this := HX.1
  have hN : T.1.length ≤ 40 := HO.1.1.1
  have hq := tx_lok HO.1
  obtain ⟨H_this_text, ftx, H_this_text_words, hftx⟩ := id HT
  obtain ⟨wc, lf, gty, H_this_typed, H_ty1, H_ty2, hlf⟩ := id HY
  obtain ⟨pnx, pf, H_this_past, pr⟩ := id HP
  obtain ⟨bkf, bkg, H_this_book, bkr⟩ := id HB
  obtain ⟨ro, pl, to, ow, lb, HLN, hpl, hto, how, hlb⟩ := id HN
  obtain ⟨H_this_now, H_np, H_this_now_total, H_this_now_owner, H_nlb, H_nro, H_nrt⟩ := id HLN
  obtain ⟨fresh, tb, bf, HSU, hsu⟩ := id HS
  have H_this_survey := HSU.1
  obtain ⟨hB1, hB2⟩ := lt_B_up hq
  have hBl := br_len hB1 hB2
  simp only at hB1 hBl
  have hv' := hv
  have vr : -1 ≤ v ∧ v ≤ 2900000 := by
    rcases hv with ⟨q, -⟩ | ⟨m, ⟨a1, a2, a3, a4, b1, b2, b3, b4, b5, b6⟩, q, -⟩
    · omega
    · omega
  by_cases c : v = -1
  · rw [if_pos c]
    refine V_iload_n eX9_told_0 rfl rfl ?_
    refine V_tswIn (tgt := 182) (off := 181) eX9_told_1 (by omega) (by omega) rfl rfl ?_
    refine V_aload_n eX9_told_182 rfl rfl ?_
    refine V_getf eX9_told_183 H_this rfl ?_
    refine V_iconst eX9_told_186 ?_
    refine V_cvg eX9_told_187 (c_X3_firstCrossed HLN (by omega) hq hpl (by omega) hv') H_this_now rfl rfl (Nat.le_of_ble_eq_true rfl) ⟨rfl, rfl⟩ ⟨Nat.zero_le _, Nat.zero_le _⟩ (fun h1 ⟨⟨ro1, HL1⟩, hfr⟩ => ?_)
    show eb_V _ _ 190 _ [.int (eb_I v)] _ _ _
    refine V_iconst eX9_told_190 ?_
    refine V_icmp_ne (tgt := 198) eX9_told_191 rfl (by omega) (fun c_191 => ?_) (fun c_191 => ?_)
    · exact absurd c c_191
    · refine V_iconst eX9_told_194 ?_
      refine V_goto (tgt := 199) eX9_told_195 rfl ?_
      exact V_iret eX9_told_199 ⟨Nat.zero_le _, Nat.zero_le _⟩ rfl (rfl) (⟨rfl, rfl, HR'.re (fun x a b => hfr x (by omega)) (fun x a b => hfr x (by omega)) ⟨ro1, pl, to, ow, lb, HL1, hpl, hto, how, hlb⟩ (HL.kept (hfr _ (by omega)) (fun x a b => hfr x (by omega))) (HS.kept (fun x a b => hfr x (by omega))), fun k hk => hfr k (by omega)⟩)
  · rw [if_neg c]
    refine V_iload_n eX9_told_0 rfl rfl ?_
    refine V_tswIn (tgt := 182) (off := 181) eX9_told_1 (by omega) (by omega) rfl rfl ?_
    refine V_aload_n eX9_told_182 rfl rfl ?_
    refine V_getf eX9_told_183 H_this rfl ?_
    refine V_iconst eX9_told_186 ?_
    refine V_cvg eX9_told_187 (c_X3_firstCrossed HLN (by omega) hq hpl (by omega) hv') H_this_now rfl rfl (Nat.le_of_ble_eq_true rfl) ⟨rfl, rfl⟩ ⟨Nat.zero_le _, Nat.zero_le _⟩ (fun h1 ⟨⟨ro1, HL1⟩, hfr⟩ => ?_)
    show eb_V _ _ 190 _ [.int (eb_I v)] _ _ _
    refine V_iconst eX9_told_190 ?_
    refine V_icmp_ne (tgt := 198) eX9_told_191 rfl (by omega) (fun c_191 => ?_) (fun c_191 => ?_)
    · refine V_iconst eX9_told_198 ?_
      exact V_iret eX9_told_199 ⟨Nat.zero_le _, Nat.zero_le _⟩ rfl (rfl) (⟨rfl, rfl, HR'.re (fun x a b => hfr x (by omega)) (fun x a b => hfr x (by omega)) ⟨ro1, pl, to, ow, lb, HL1, hpl, hto, how, hlb⟩ (HL.kept (hfr _ (by omega)) (fun x a b => hfr x (by omega))) (HS.kept (fun x a b => hfr x (by omega))), fun k hk => hfr k (by omega)⟩)
    · exact absurd c_191 c
theorem x9_told_10 (HR : XR h T ty fa past seed i0 i1 sees book) (HO : SOK T ty fa past seed i0 i1 sees book) : eb_T mX9_told [.ref 0, .int (eb_I 10)] n h (eb_G (some (.int (eb_I (rv (lt_pl (tx_wf T.1)) (lt_B (txq T)) T.1.length)))) n (fun h' => XR h' T ty fa past seed i0 i1 sees book ∧ F67 h h')) := by
  refine eb_T.of (by decide +kernel) (Nat.le_of_ble_eq_true rfl) ?_
  show eb_V _ _ 0 [.ref 0, .int (eb_I 10)] [] (n, 0, 0) h _
  have HR' := HR
  obtain ⟨HX, HT, HY, HP, HD, HB, HN, HL, HS, HI0, HI1⟩ := HR
  have H_this := HX.1
  have hN : T.1.length ≤ 40 := HO.1.1.1
  have hq := tx_lok HO.1
  obtain ⟨H_this_text, ftx, H_this_text_words, hftx⟩ := id HT
  obtain ⟨wc, lf, gty, H_this_typed, H_ty1, H_ty2, hlf⟩ := id HY
  obtain ⟨pnx, pf, H_this_past, pr⟩ := id HP
  obtain ⟨bkf, bkg, H_this_book, bkr⟩ := id HB
  obtain ⟨ro, pl, to, ow, lb, HLN, hpl, hto, how, hlb⟩ := id HN
  obtain ⟨H_this_now, H_np, H_this_now_total, H_this_now_owner, H_nlb, H_nro, H_nrt⟩ := id HLN
  obtain ⟨fresh, tb, bf, HSU, hsu⟩ := id HS
  have H_this_survey := HSU.1
  obtain ⟨hB1, hB2⟩ := lt_B_up hq
  have hBl := br_len hB1 hB2
  simp only at hB1 hBl
  refine V_iload_n eX9_told_0 rfl rfl ?_
  refine V_tswIn (tgt := 200) (off := 199) eX9_told_1 (by omega) (by omega) rfl rfl ?_
  refine V_aload_n eX9_told_200 rfl rfl ?_
  refine V_getf eX9_told_201 H_this rfl ?_
  refine V_cvi eX9_told_204 (c_X3_rivers HLN hN hq.2 hpl hB1 hB2 hlb) H_this_now rfl rfl (Nat.le_of_ble_eq_true rfl) ⟨rfl, rfl⟩ ⟨Nat.zero_le _, Nat.zero_le _⟩ ?_
  exact V_iret eX9_told_207 ⟨Nat.zero_le _, Nat.zero_le _⟩ rfl (rfl) (⟨rfl, rfl, HR', F67.rf⟩)
theorem x9_told_17 (HR : XR h T ty fa past seed i0 i1 sees book) (HO : SOK T ty fa past seed i0 i1 sees book) : eb_T mX9_told [.ref 0, .int (eb_I 17)] n h (eb_G (some (.int (eb_I (bw (lt_B (txq T)) book 0)))) n (fun h' => XR h' T ty fa past seed i0 i1 sees book ∧ F67 h h')) := by
  refine eb_T.of (by decide +kernel) (Nat.le_of_ble_eq_true rfl) ?_
  show eb_V _ _ 0 [.ref 0, .int (eb_I 17)] [] (n, 0, 0) h _
  have HR' := HR
  obtain ⟨HX, HT, HY, HP, HD, HB, HN, HL, HS, HI0, HI1⟩ := HR
  have H_this := HX.1
  have hN : T.1.length ≤ 40 := HO.1.1.1
  have hq := tx_lok HO.1
  obtain ⟨H_this_text, ftx, H_this_text_words, hftx⟩ := id HT
  obtain ⟨wc, lf, gty, H_this_typed, H_ty1, H_ty2, hlf⟩ := id HY
  obtain ⟨pnx, pf, H_this_past, pr⟩ := id HP
  obtain ⟨bkf, bkg, H_this_book, bkr⟩ := id HB
  obtain ⟨ro, pl, to, ow, lb, HLN, hpl, hto, how, hlb⟩ := id HN
  obtain ⟨H_this_now, H_np, H_this_now_total, H_this_now_owner, H_nlb, H_nro, H_nrt⟩ := id HLN
  obtain ⟨fresh, tb, bf, HSU, hsu⟩ := id HS
  have H_this_survey := HSU.1
  obtain ⟨hB1, hB2⟩ := lt_B_up hq
  have hBl := br_len hB1 hB2
  simp only at hB1 hBl
  refine V_iload_n eX9_told_0 rfl rfl ?_
  refine V_tswIn (tgt := 263) (off := 262) eX9_told_1 (by omega) (by omega) rfl rfl ?_
  refine V_aload_n eX9_told_263 rfl rfl ?_
  refine V_getf eX9_told_264 H_this rfl ?_
  refine V_aload_n eX9_told_267 rfl rfl ?_
  refine V_getf eX9_told_268 H_this rfl ?_
  refine V_cvi eX9_told_271 (c_X0_firstWrong HB HO.2.2.2.2.2.2.2.2 HLN (by omega) (fun x hx => by have := hB1 x hx; omega) hlb) H_this_book rfl rfl (Nat.le_of_ble_eq_true rfl) ⟨rfl, rfl⟩ ⟨Nat.zero_le _, Nat.zero_le _⟩ ?_
  exact V_iret eX9_told_274 ⟨Nat.zero_le _, Nat.zero_le _⟩ rfl (rfl) (⟨rfl, rfl, HR', F67.rf⟩)
theorem TXq_ok {T : TX} (HO : TX_ok T) {m : Nat} (h1 : 1 ≤ m) (h2 : m ≤ 200) : lt_ok (TXq T m) := ⟨⟨HO.1.1, ⟨by show (1 : Int) ≤ m; omega, by show (m : Int) ≤ 200; omega⟩, HO.1.2.2⟩, tx_wok HO⟩
theorem x9_told_12 (HR : XR h T ty fa past seed i0 i1 sees book) (HO : SOK T ty fa past seed i0 i1 sees book) : eb_T mX9_told [.ref 0, .int (eb_I 12)] n h (eb_G (some (.int (eb_I (sm (su_F (fun m => br_mk (lt_B (TXq T m))) sees) 1 200)))) n (fun h' => XR h' T ty fa past seed i0 i1 sees book ∧ F67 h h')) := by
  refine eb_T.of (by decide +kernel) (Nat.le_of_ble_eq_true rfl) ?_
  show eb_V _ _ 0 [.ref 0, .int (eb_I 12)] [] (n, 0, 0) h _
  have HR' := HR
  obtain ⟨HX, HT, HY, HP, HD, HB, HN, HL, HS, HI0, HI1⟩ := HR
  have H_this := HX.1
  have hN : T.1.length ≤ 40 := HO.1.1.1
  have hq := tx_lok HO.1
  obtain ⟨H_this_text, ftx, H_this_text_words, hftx⟩ := id HT
  obtain ⟨wc, lf, gty, H_this_typed, H_ty1, H_ty2, hlf⟩ := id HY
  obtain ⟨pnx, pf, H_this_past, pr⟩ := id HP
  obtain ⟨bkf, bkg, H_this_book, bkr⟩ := id HB
  obtain ⟨ro, pl, to, ow, lb, HLN, hpl, hto, how, hlb⟩ := id HN
  obtain ⟨H_this_now, H_np, H_this_now_total, H_this_now_owner, H_nlb, H_nro, H_nrt⟩ := id HLN
  obtain ⟨fresh, tb, bf, HSU, hsu⟩ := id HS
  have H_this_survey := HSU.1
  obtain ⟨hB1, hB2⟩ := lt_B_up hq
  have hBl := br_len hB1 hB2
  simp only at hB1 hBl
  refine V_iload_n eX9_told_0 rfl rfl ?_
  refine V_tswIn (tgt := 216) (off := 215) eX9_told_1 (by omega) (by omega) rfl rfl ?_
  refine V_aload_n eX9_told_216 rfl rfl ?_
  refine V_cvg eX9_told_217 (c_X9_surveyed HX HT HO.1 HL HS) H_this rfl rfl (Nat.le_of_ble_eq_true rfl) ⟨rfl, rfl⟩ ⟨Nat.zero_le _, Nat.zero_le _⟩ (fun h1 ⟨⟨⟨tb1, bf1, HS1, hfl1⟩, HL1⟩, hfr⟩ => ?_)
  show eb_V _ _ 220 _ [.ref 58] _ _ _
  have H_this : h1 0 = _ := (hfr 0 (by omega)).trans H_this
  have H_sv := HS1.1
  have H_this_text : h1 1 = _ := (hfr 1 (by omega)).trans H_this_text
  have hbm : ∀ m, 1 ≤ m → m ≤ 200 → bf1 m = (br_mk (lt_B (TXq T m)) : Int) ∧ br_mk (lt_B (TXq T m)) < 2 ^ 41 := fun m m1 m2 => ⟨(hfl1 m m1 m2).2, br_mk_lt (fun x hx => by have := (lt_B_up (TXq_ok HO.1 m1 m2)).1 x hx; have e : (TXq T m).1 = T.1.length := rfl; omega)⟩
  have XR1 : XR h1 T ty fa past seed i0 i1 sees book := HR'.re (fun x a b => hfr x (by omega)) (fun x a b => hfr x (by omega)) (HN.kept (fun x a b => hfr x (by omega))) HL1 ⟨1, tb1, bf1, HS1, Or.inr ⟨rfl, hfl1⟩⟩
  refine V_cvi eX9_told_220 (c_X6_fitting HS1 HO.2.2.2.2.2.2.2.1 hbm) H_sv rfl rfl (Nat.le_of_ble_eq_true rfl) ⟨rfl, rfl⟩ ⟨Nat.zero_le _, Nat.zero_le _⟩ ?_
  exact V_iret eX9_told_223 ⟨Nat.zero_le _, Nat.zero_le _⟩ rfl (rfl) (⟨rfl, rfl, XR1, fun k hk => hfr k (by omega)⟩)
theorem x9_told_13 {v : Int} (HR : XR h T ty fa past seed i0 i1 sees book) (HO : SOK T ty fa past seed i0 i1 sees book) (hv : lc (fun m => (1 ≤ m ∧ m ≤ 200) ∧ ft ((fun m => br_mk (lt_B (TXq T m))) m) sees = true) v) : eb_T mX9_told [.ref 0, .int (eb_I 13)] n h (eb_G (some (.int (eb_I (v)))) n (fun h' => XR h' T ty fa past seed i0 i1 sees book ∧ F67 h h')) := by
  refine eb_T.of (by decide +kernel) (Nat.le_of_ble_eq_true rfl) ?_
  show eb_V _ _ 0 [.ref 0, .int (eb_I 13)] [] (n, 0, 0) h _
  have HR' := HR
  obtain ⟨HX, HT, HY, HP, HD, HB, HN, HL, HS, HI0, HI1⟩ := HR
  have H_this := HX.1
  have hN : T.1.length ≤ 40 := HO.1.1.1
  have hq := tx_lok HO.1
  obtain ⟨H_this_text, ftx, H_this_text_words, hftx⟩ := id HT
  obtain ⟨wc, lf, gty, H_this_typed, H_ty1, H_ty2, hlf⟩ := id HY
  obtain ⟨pnx, pf, H_this_past, pr⟩ := id HP
  obtain ⟨bkf, bkg, H_this_book, bkr⟩ := id HB
  obtain ⟨ro, pl, to, ow, lb, HLN, hpl, hto, how, hlb⟩ := id HN
  obtain ⟨H_this_now, H_np, H_this_now_total, H_this_now_owner, H_nlb, H_nro, H_nrt⟩ := id HLN
  obtain ⟨fresh, tb, bf, HSU, hsu⟩ := id HS
  have H_this_survey := HSU.1
  obtain ⟨hB1, hB2⟩ := lt_B_up hq
  have hBl := br_len hB1 hB2
  simp only at hB1 hBl
  refine V_iload_n eX9_told_0 rfl rfl ?_
  refine V_tswIn (tgt := 224) (off := 223) eX9_told_1 (by omega) (by omega) rfl rfl ?_
  refine V_aload_n eX9_told_224 rfl rfl ?_
  refine V_cvg eX9_told_225 (c_X9_surveyed HX HT HO.1 HL HS) H_this rfl rfl (Nat.le_of_ble_eq_true rfl) ⟨rfl, rfl⟩ ⟨Nat.zero_le _, Nat.zero_le _⟩ (fun h1 ⟨⟨⟨tb1, bf1, HS1, hfl1⟩, HL1⟩, hfr⟩ => ?_)
  show eb_V _ _ 228 _ [.ref 58] _ _ _
  have H_this : h1 0 = _ := (hfr 0 (by omega)).trans H_this
  have H_sv := HS1.1
  have H_this_text : h1 1 = _ := (hfr 1 (by omega)).trans H_this_text
  have hbm : ∀ m, 1 ≤ m → m ≤ 200 → bf1 m = (br_mk (lt_B (TXq T m)) : Int) ∧ br_mk (lt_B (TXq T m)) < 2 ^ 41 := fun m m1 m2 => ⟨(hfl1 m m1 m2).2, br_mk_lt (fun x hx => by have := (lt_B_up (TXq_ok HO.1 m1 m2)).1 x hx; have e : (TXq T m).1 = T.1.length := rfl; omega)⟩
  have XR1 : XR h1 T ty fa past seed i0 i1 sees book := HR'.re (fun x a b => hfr x (by omega)) (fun x a b => hfr x (by omega)) (HN.kept (fun x a b => hfr x (by omega))) HL1 ⟨1, tb1, bf1, HS1, Or.inr ⟨rfl, hfl1⟩⟩
  refine V_cvi eX9_told_228 (c_X6_leastFitting HS1 HO.2.2.2.2.2.2.2.1 hbm hv) H_sv rfl rfl (Nat.le_of_ble_eq_true rfl) ⟨rfl, rfl⟩ ⟨Nat.zero_le _, Nat.zero_le _⟩ ?_
  exact V_iret eX9_told_231 ⟨Nat.zero_le _, Nat.zero_le _⟩ rfl (rfl) (⟨rfl, rfl, XR1, fun k hk => hfr k (by omega)⟩)
theorem x9_told_14 {v : Int} (HR : XR h T ty fa past seed i0 i1 sees book) (HO : SOK T ty fa past seed i0 i1 sees book) (hv : gc (fun m => (1 ≤ m ∧ m ≤ 200) ∧ ft ((fun m => br_mk (lt_B (TXq T m))) m) sees = true) v) : eb_T mX9_told [.ref 0, .int (eb_I 14)] n h (eb_G (some (.int (eb_I (v)))) n (fun h' => XR h' T ty fa past seed i0 i1 sees book ∧ F67 h h')) := by
  refine eb_T.of (by decide +kernel) (Nat.le_of_ble_eq_true rfl) ?_
  show eb_V _ _ 0 [.ref 0, .int (eb_I 14)] [] (n, 0, 0) h _
  have HR' := HR
  obtain ⟨HX, HT, HY, HP, HD, HB, HN, HL, HS, HI0, HI1⟩ := HR
  have H_this := HX.1
  have hN : T.1.length ≤ 40 := HO.1.1.1
  have hq := tx_lok HO.1
  obtain ⟨H_this_text, ftx, H_this_text_words, hftx⟩ := id HT
  obtain ⟨wc, lf, gty, H_this_typed, H_ty1, H_ty2, hlf⟩ := id HY
  obtain ⟨pnx, pf, H_this_past, pr⟩ := id HP
  obtain ⟨bkf, bkg, H_this_book, bkr⟩ := id HB
  obtain ⟨ro, pl, to, ow, lb, HLN, hpl, hto, how, hlb⟩ := id HN
  obtain ⟨H_this_now, H_np, H_this_now_total, H_this_now_owner, H_nlb, H_nro, H_nrt⟩ := id HLN
  obtain ⟨fresh, tb, bf, HSU, hsu⟩ := id HS
  have H_this_survey := HSU.1
  obtain ⟨hB1, hB2⟩ := lt_B_up hq
  have hBl := br_len hB1 hB2
  simp only at hB1 hBl
  refine V_iload_n eX9_told_0 rfl rfl ?_
  refine V_tswIn (tgt := 232) (off := 231) eX9_told_1 (by omega) (by omega) rfl rfl ?_
  refine V_aload_n eX9_told_232 rfl rfl ?_
  refine V_cvg eX9_told_233 (c_X9_surveyed HX HT HO.1 HL HS) H_this rfl rfl (Nat.le_of_ble_eq_true rfl) ⟨rfl, rfl⟩ ⟨Nat.zero_le _, Nat.zero_le _⟩ (fun h1 ⟨⟨⟨tb1, bf1, HS1, hfl1⟩, HL1⟩, hfr⟩ => ?_)
  show eb_V _ _ 236 _ [.ref 58] _ _ _
  have H_this : h1 0 = _ := (hfr 0 (by omega)).trans H_this
  have H_sv := HS1.1
  have H_this_text : h1 1 = _ := (hfr 1 (by omega)).trans H_this_text
  have hbm : ∀ m, 1 ≤ m → m ≤ 200 → bf1 m = (br_mk (lt_B (TXq T m)) : Int) ∧ br_mk (lt_B (TXq T m)) < 2 ^ 41 := fun m m1 m2 => ⟨(hfl1 m m1 m2).2, br_mk_lt (fun x hx => by have := (lt_B_up (TXq_ok HO.1 m1 m2)).1 x hx; have e : (TXq T m).1 = T.1.length := rfl; omega)⟩
  have XR1 : XR h1 T ty fa past seed i0 i1 sees book := HR'.re (fun x a b => hfr x (by omega)) (fun x a b => hfr x (by omega)) (HN.kept (fun x a b => hfr x (by omega))) HL1 ⟨1, tb1, bf1, HS1, Or.inr ⟨rfl, hfl1⟩⟩
  refine V_cvi eX9_told_236 (c_X6_greatestFitting HS1 HO.2.2.2.2.2.2.2.1 hbm hv) H_sv rfl rfl (Nat.le_of_ble_eq_true rfl) ⟨rfl, rfl⟩ ⟨Nat.zero_le _, Nat.zero_le _⟩ ?_
  exact V_iret eX9_told_239 ⟨Nat.zero_le _, Nat.zero_le _⟩ rfl (rfl) (⟨rfl, rfl, XR1, fun k hk => hfr k (by omega)⟩)
theorem x9_told_15 (HR : XR h T ty fa past seed i0 i1 sees book) (HO : SOK T ty fa past seed i0 i1 sees book) : eb_T mX9_told [.ref 0, .int (eb_I 15)] n h (eb_G (some (.int (eb_I ((lk_F (fun e => sm (su_E (fun m => br_mk (lt_B (TXq T m))) sees e) 1 200) (sm (su_F (fun m => br_mk (lt_B (TXq T m))) sees) 1 200) (T.1.length + 1)).1)))) n (fun h' => XR h' T ty fa past seed i0 i1 sees book ∧ F67 h h')) := by
  refine eb_T.of (by decide +kernel) (Nat.le_of_ble_eq_true rfl) ?_
  show eb_V _ _ 0 [.ref 0, .int (eb_I 15)] [] (n, 0, 0) h _
  have HR' := HR
  obtain ⟨HX, HT, HY, HP, HD, HB, HN, HL, HS, HI0, HI1⟩ := HR
  have H_this := HX.1
  have hN : T.1.length ≤ 40 := HO.1.1.1
  have hq := tx_lok HO.1
  obtain ⟨H_this_text, ftx, H_this_text_words, hftx⟩ := id HT
  obtain ⟨wc, lf, gty, H_this_typed, H_ty1, H_ty2, hlf⟩ := id HY
  obtain ⟨pnx, pf, H_this_past, pr⟩ := id HP
  obtain ⟨bkf, bkg, H_this_book, bkr⟩ := id HB
  obtain ⟨ro, pl, to, ow, lb, HLN, hpl, hto, how, hlb⟩ := id HN
  obtain ⟨H_this_now, H_np, H_this_now_total, H_this_now_owner, H_nlb, H_nro, H_nrt⟩ := id HLN
  obtain ⟨fresh, tb, bf, HSU, hsu⟩ := id HS
  have H_this_survey := HSU.1
  obtain ⟨hB1, hB2⟩ := lt_B_up hq
  have hBl := br_len hB1 hB2
  simp only at hB1 hBl
  refine V_iload_n eX9_told_0 rfl rfl ?_
  refine V_tswIn (tgt := 240) (off := 239) eX9_told_1 (by omega) (by omega) rfl rfl ?_
  refine V_aload_n eX9_told_240 rfl rfl ?_
  refine V_cvg eX9_told_241 (c_X9_surveyed HX HT HO.1 HL HS) H_this rfl rfl (Nat.le_of_ble_eq_true rfl) ⟨rfl, rfl⟩ ⟨Nat.zero_le _, Nat.zero_le _⟩ (fun h1 ⟨⟨⟨tb1, bf1, HS1, hfl1⟩, HL1⟩, hfr⟩ => ?_)
  show eb_V _ _ 244 _ [.ref 58] _ _ _
  have H_this : h1 0 = _ := (hfr 0 (by omega)).trans H_this
  have H_sv := HS1.1
  have H_this_text : h1 1 = _ := (hfr 1 (by omega)).trans H_this_text
  have hbm : ∀ m, 1 ≤ m → m ≤ 200 → bf1 m = (br_mk (lt_B (TXq T m)) : Int) ∧ br_mk (lt_B (TXq T m)) < 2 ^ 41 := fun m m1 m2 => ⟨(hfl1 m m1 m2).2, br_mk_lt (fun x hx => by have := (lt_B_up (TXq_ok HO.1 m1 m2)).1 x hx; have e : (TXq T m).1 = T.1.length := rfl; omega)⟩
  have XR1 : XR h1 T ty fa past seed i0 i1 sees book := HR'.re (fun x a b => hfr x (by omega)) (fun x a b => hfr x (by omega)) (HN.kept (fun x a b => hfr x (by omega))) HL1 ⟨1, tb1, bf1, HS1, Or.inr ⟨rfl, hfl1⟩⟩
  refine V_aload_n eX9_told_244 rfl rfl ?_
  refine V_getf eX9_told_245 H_this rfl ?_
  refine V_getf eX9_told_248 H_this_text rfl ?_
  refine V_cvi eX9_told_251 (c_X6_look HS1 HO.2.2.2.2.2.2.2.1 hbm hN) H_sv rfl rfl (Nat.le_of_ble_eq_true rfl) ⟨rfl, rfl⟩ ⟨Nat.zero_le _, Nat.zero_le _⟩ ?_
  exact V_iret eX9_told_254 ⟨Nat.zero_le _, Nat.zero_le _⟩ rfl (rfl) (⟨rfl, rfl, XR1, fun k hk => hfr k (by omega)⟩)
theorem x9_told_out {w : Int} (HR : XR h T ty fa past seed i0 i1 sees book) (HO : SOK T ty fa past seed i0 i1 sees book) (hw : -2147483648 ≤ w ∧ w ≤ 2147483647) (hc : ¬ (0 ≤ w ∧ w ≤ 18)) : eb_T mX9_told [.ref 0, .int (eb_I w)] n h (eb_G (some (.int (eb_I (-1000000002)))) n (fun h' => XR h' T ty fa past seed i0 i1 sees book ∧ F67 h h')) := by
  refine eb_T.of (by decide +kernel) (Nat.le_of_ble_eq_true rfl) ?_
  show eb_V _ _ 0 [.ref 0, .int (eb_I w)] [] (n, 0, 0) h _
  have HR' := HR
  obtain ⟨HX, HT, HY, HP, HD, HB, HN, HL, HS, HI0, HI1⟩ := HR
  have H_this := HX.1
  have hN : T.1.length ≤ 40 := HO.1.1.1
  have hq := tx_lok HO.1
  obtain ⟨H_this_text, ftx, H_this_text_words, hftx⟩ := id HT
  obtain ⟨wc, lf, gty, H_this_typed, H_ty1, H_ty2, hlf⟩ := id HY
  obtain ⟨pnx, pf, H_this_past, pr⟩ := id HP
  obtain ⟨bkf, bkg, H_this_book, bkr⟩ := id HB
  obtain ⟨ro, pl, to, ow, lb, HLN, hpl, hto, how, hlb⟩ := id HN
  obtain ⟨H_this_now, H_np, H_this_now_total, H_this_now_owner, H_nlb, H_nro, H_nrt⟩ := id HLN
  obtain ⟨fresh, tb, bf, HSU, hsu⟩ := id HS
  have H_this_survey := HSU.1
  obtain ⟨hB1, hB2⟩ := lt_B_up hq
  have hBl := br_len hB1 hB2
  simp only at hB1 hBl
  refine V_iload_n eX9_told_0 rfl rfl ?_
  refine V_tswOut (tgt := 283) eX9_told_1 (hw) (by omega) rfl ?_
  refine V_ldc (a := -1000000002) eX9_told_283 wd_376 (by decide) ?_
  exact V_iret eX9_told_285 ⟨Nat.zero_le _, Nat.zero_le _⟩ rfl (rfl) (⟨rfl, rfl, HR', F67.rf⟩)
theorem x9_best_out {a b w : Int} (HR : XR h T ty fa past seed i0 i1 sees book) (HO : SOK T ty fa past seed i0 i1 sees book) (ha : -2147483648 ≤ a ∧ a ≤ 2147483647) (hb : -2147483648 ≤ b ∧ b ≤ 2147483647) (hw : -2147483648 ≤ w ∧ w ≤ 2147483647) (hc : ¬ (1 ≤ a ∧ b ≤ 200 ∧ a ≤ b ∧ 0 ≤ w ∧ w ≤ 1)) : eb_T mX9_best [.ref 0, .int (eb_I a), .int (eb_I b), .int (eb_I w)] n h (eb_G (some (.int (eb_I (-1000000002)))) n (fun h' => XR h' T ty fa past seed i0 i1 sees book ∧ F67 h h')) := by
  refine eb_T.of (by decide +kernel) (Nat.le_of_ble_eq_true rfl) ?_
  show eb_V _ _ 0 [.ref 0, .int (eb_I a), .int (eb_I b), .int (eb_I w), eb_no, eb_no] [] (n, 0, 0) h _
  have HR' := HR
  obtain ⟨HX, HT, HY, HP, HD, HB, HN, HL, HS, HI0, HI1⟩ := HR
  have H_this := HX.1
  have hN : T.1.length ≤ 40 := HO.1.1.1
  have hq := tx_lok HO.1
  obtain ⟨H_this_text, ftx, H_this_text_words, hftx⟩ := id HT
  obtain ⟨wc, lf, gty, H_this_typed, H_ty1, H_ty2, hlf⟩ := id HY
  obtain ⟨pnx, pf, H_this_past, pr⟩ := id HP
  obtain ⟨bkf, bkg, H_this_book, bkr⟩ := id HB
  obtain ⟨ro, pl, to, ow, lb, HLN, hpl, hto, how, hlb⟩ := id HN
  obtain ⟨H_this_now, H_np, H_this_now_total, H_this_now_owner, H_nlb, H_nro, H_nrt⟩ := id HLN
  obtain ⟨fresh, tb, bf, HSU, hsu⟩ := id HS
  have H_this_survey := HSU.1
  obtain ⟨hB1, hB2⟩ := lt_B_up hq
  have hBl := br_len hB1 hB2
  simp only at hB1 hBl
  refine V_iload_n eX9_best_0 rfl rfl ?_
  refine V_iconst eX9_best_1 ?_
  refine V_icmp_lt (tgt := 26) eX9_best_2 rfl (by omega) (fun c_2 => ?_) (fun c_2 => ?_)
  · refine V_ldc (a := -1000000002) eX9_best_26 wd_376 (by decide) ?_
    exact V_iret eX9_best_28 ⟨Nat.zero_le _, Nat.zero_le _⟩ rfl (rfl) (⟨rfl, rfl, HR', F67.rf⟩)
  · refine V_iload_n eX9_best_5 rfl rfl ?_
    refine V_sipush eX9_best_6 (by decide) ?_
    refine V_icmp_gt (tgt := 26) eX9_best_9 rfl (by omega) (fun c_9 => ?_) (fun c_9 => ?_)
    · refine V_ldc (a := -1000000002) eX9_best_26 wd_376 (by decide) ?_
      exact V_iret eX9_best_28 ⟨Nat.zero_le _, Nat.zero_le _⟩ rfl (rfl) (⟨rfl, rfl, HR', F67.rf⟩)
    · refine V_iload_n eX9_best_12 rfl rfl ?_
      refine V_iload_n eX9_best_13 rfl rfl ?_
      refine V_icmp_gt (tgt := 26) eX9_best_14 rfl (by omega) (fun c_14 => ?_) (fun c_14 => ?_)
      · refine V_ldc (a := -1000000002) eX9_best_26 wd_376 (by decide) ?_
        exact V_iret eX9_best_28 ⟨Nat.zero_le _, Nat.zero_le _⟩ rfl (rfl) (⟨rfl, rfl, HR', F67.rf⟩)
      · refine V_iload_n eX9_best_17 rfl rfl ?_
        refine V_if_lt (tgt := 26) eX9_best_18 rfl (by omega) (fun c_18 => ?_) (fun c_18 => ?_)
        · refine V_ldc (a := -1000000002) eX9_best_26 wd_376 (by decide) ?_
          exact V_iret eX9_best_28 ⟨Nat.zero_le _, Nat.zero_le _⟩ rfl (rfl) (⟨rfl, rfl, HR', F67.rf⟩)
        · refine V_iload_n eX9_best_21 rfl rfl ?_
          refine V_iconst eX9_best_22 ?_
          refine V_icmp_le (tgt := 29) eX9_best_23 rfl (by omega) (fun c_23 => ?_) (fun c_23 => ?_)
          · exact absurd c_23 (by omega)
          · refine V_ldc (a := -1000000002) eX9_best_26 wd_376 (by decide) ?_
            exact V_iret eX9_best_28 ⟨Nat.zero_le _, Nat.zero_le _⟩ rfl (rfl) (⟨rfl, rfl, HR', F67.rf⟩)
theorem x9_best_0 {a d : Nat} (HR : XR h T ty fa past seed i0 i1 sees book) (HO : SOK T ty fa past seed i0 i1 sees book) (ha : 1 ≤ a) (hd : a + d ≤ 200) : eb_T mX9_best [.ref 0, .int (eb_I (a : Int)), .int (eb_I ((a + d : Nat) : Int)), .int (eb_I 0)] n h (eb_G (some (.int (eb_I ((a : Int) + dp_a (fun i => dp_t (lt_c (TXq T (a + i))) T.1.length) (d + 1))))) n (fun h' => XR h' T ty fa past seed i0 i1 sees book ∧ F67 h h')) := by
  refine eb_T.of (by decide +kernel) (Nat.le_of_ble_eq_true rfl) ?_
  show eb_V _ _ 0 [.ref 0, .int (eb_I (a : Int)), .int (eb_I ((a + d : Nat) : Int)), .int (eb_I 0), eb_no, eb_no] [] (n, 0, 0) h _
  have HR' := HR
  obtain ⟨HX, HT, HY, HP, HD, HB, HN, HL, HS, HI0, HI1⟩ := HR
  have H_this := HX.1
  have hN : T.1.length ≤ 40 := HO.1.1.1
  have hq := tx_lok HO.1
  obtain ⟨H_this_text, ftx, H_this_text_words, hftx⟩ := id HT
  obtain ⟨wc, lf, gty, H_this_typed, H_ty1, H_ty2, hlf⟩ := id HY
  obtain ⟨pnx, pf, H_this_past, pr⟩ := id HP
  obtain ⟨bkf, bkg, H_this_book, bkr⟩ := id HB
  obtain ⟨ro, pl, to, ow, lb, HLN, hpl, hto, how, hlb⟩ := id HN
  obtain ⟨H_this_now, H_np, H_this_now_total, H_this_now_owner, H_nlb, H_nro, H_nrt⟩ := id HLN
  obtain ⟨fresh, tb, bf, HSU, hsu⟩ := id HS
  have H_this_survey := HSU.1
  obtain ⟨hB1, hB2⟩ := lt_B_up hq
  have hBl := br_len hB1 hB2
  simp only at hB1 hBl
  have hdr : ∀ m, 1 ≤ m → m ≤ 200 → 0 ≤ dp_t (lt_c (TXq T m)) T.1.length ∧ dp_t (lt_c (TXq T m)) T.1.length < 2000000000 := fun m m1 m2 => by
    have := dp_t_r (lt_cok (TXq_ok HO.1 m1 m2)) T.1.length (Nat.le_refl _)
    omega
  obtain ⟨k, k1, k2, k3⟩ := dp_has (f := (fun i => dp_t (lt_c (TXq T (a + i))) T.1.length)) (n := d + 1) (by omega) (fun i hi => (hdr (a + i) (by omega) (by omega)).2)
  have hk := k1.1
  refine V_iload_n eX9_best_0 rfl rfl ?_
  refine V_iconst eX9_best_1 ?_
  refine V_icmp_lt (tgt := 26) eX9_best_2 rfl (by omega) (fun c_2 => ?_) (fun c_2 => ?_)
  · exact absurd c_2 (by omega)
  · refine V_iload_n eX9_best_5 rfl rfl ?_
    refine V_sipush eX9_best_6 (by decide) ?_
    refine V_icmp_gt (tgt := 26) eX9_best_9 rfl (by omega) (fun c_9 => ?_) (fun c_9 => ?_)
    · exact absurd c_9 (by omega)
    · refine V_iload_n eX9_best_12 rfl rfl ?_
      refine V_iload_n eX9_best_13 rfl rfl ?_
      refine V_icmp_gt (tgt := 26) eX9_best_14 rfl (by omega) (fun c_14 => ?_) (fun c_14 => ?_)
      · exact absurd c_14 (by omega)
      · refine V_iload_n eX9_best_17 rfl rfl ?_
        refine V_if_lt (tgt := 26) eX9_best_18 rfl (by omega) (fun c_18 => ?_) (fun c_18 => ?_)
        · exact absurd c_18 (by omega)
        · refine V_iload_n eX9_best_21 rfl rfl ?_
          refine V_iconst eX9_best_22 ?_
          refine V_icmp_le (tgt := 29) eX9_best_23 rfl (by omega) (fun c_23 => ?_) (fun c_23 => ?_)
          · refine V_aload_n eX9_best_29 rfl rfl ?_
            refine V_cvg eX9_best_30 (c_X9_surveyed HX HT HO.1 HL HS) H_this rfl rfl (Nat.le_of_ble_eq_true rfl) ⟨rfl, rfl⟩ ⟨Nat.zero_le _, Nat.zero_le _⟩ (fun h1 ⟨⟨⟨tb1, bf1, HS1, hfl1⟩, HL1⟩, hfr⟩ => ?_)
            show eb_V _ _ 33 _ [.ref 58] _ _ _
            have H_this : h1 0 = _ := (hfr 0 (by omega)).trans H_this
            have H_sv := HS1.1
            have H_this_text : h1 1 = _ := (hfr 1 (by omega)).trans H_this_text
            have hbm : ∀ m, 1 ≤ m → m ≤ 200 → bf1 m = (br_mk (lt_B (TXq T m)) : Int) ∧ br_mk (lt_B (TXq T m)) < 2 ^ 41 := fun m m1 m2 => ⟨(hfl1 m m1 m2).2, br_mk_lt (fun x hx => by have := (lt_B_up (TXq_ok HO.1 m1 m2)).1 x hx; have e : (TXq T m).1 = T.1.length := rfl; omega)⟩
            have XR1 : XR h1 T ty fa past seed i0 i1 sees book := HR'.re (fun x a b => hfr x (by omega)) (fun x a b => hfr x (by omega)) (HN.kept (fun x a b => hfr x (by omega))) HL1 ⟨1, tb1, bf1, HS1, Or.inr ⟨rfl, hfl1⟩⟩
            refine V_astore eX9_best_33 (Nat.le_of_ble_eq_true rfl) rfl (eb_sS (eb_sS (eb_sS (eb_sS eb_s0)))) ?_
            refine V_aload eX9_best_35 rfl ?_
            refine V_iload_n eX9_best_37 rfl rfl ?_
            refine V_iload_n eX9_best_38 rfl rfl ?_
            refine V_cvi eX9_best_39 (c_X6_bestMeasure HS1 ha hd (fun m m1 m2 => by rw [(hfl1 m m1 m2).1]; exact hdr m m1 m2)) H_sv rfl rfl (Nat.le_of_ble_eq_true rfl) ⟨rfl, rfl⟩ ⟨Nat.zero_le _, Nat.zero_le _⟩ ?_
            rw [dp_a_congr (g := (fun i => dp_t (lt_c (TXq T (a + i))) T.1.length)) (fun i hi => (hfl1 (a + i) (by omega) (by omega)).1), k3]
            refine V_istore eX9_best_42 (Nat.le_of_ble_eq_true rfl) rfl (eb_sS (eb_sS (eb_sS (eb_sS (eb_sS eb_s0))))) ?_
            refine V_iload_n eX9_best_44 rfl rfl ?_
            refine V_if_ne (tgt := 53) eX9_best_45 rfl (by omega) (fun c_45 => ?_) (fun c_45 => ?_)
            · exact absurd rfl c_45
            · refine V_iload eX9_best_48 rfl ?_
              refine V_goto (tgt := 61) eX9_best_50 rfl ?_
              exact V_iret eX9_best_61 ⟨Nat.zero_le _, Nat.zero_le _⟩ rfl (rfl) (⟨rfl, rfl, XR1, fun k hk => hfr k (by omega)⟩)
          · exact absurd (by omega) c_23
theorem x9_best_1 {a d : Nat} (HR : XR h T ty fa past seed i0 i1 sees book) (HO : SOK T ty fa past seed i0 i1 sees book) (ha : 1 ≤ a) (hd : a + d ≤ 200) : eb_T mX9_best [.ref 0, .int (eb_I (a : Int)), .int (eb_I ((a + d : Nat) : Int)), .int (eb_I 1)] n h (eb_G (some (.int (eb_I (dp_m (fun i => dp_t (lt_c (TXq T (a + i))) T.1.length) (d + 1))))) n (fun h' => XR h' T ty fa past seed i0 i1 sees book ∧ F67 h h')) := by
  refine eb_T.of (by decide +kernel) (Nat.le_of_ble_eq_true rfl) ?_
  show eb_V _ _ 0 [.ref 0, .int (eb_I (a : Int)), .int (eb_I ((a + d : Nat) : Int)), .int (eb_I 1), eb_no, eb_no] [] (n, 0, 0) h _
  have HR' := HR
  obtain ⟨HX, HT, HY, HP, HD, HB, HN, HL, HS, HI0, HI1⟩ := HR
  have H_this := HX.1
  have hN : T.1.length ≤ 40 := HO.1.1.1
  have hq := tx_lok HO.1
  obtain ⟨H_this_text, ftx, H_this_text_words, hftx⟩ := id HT
  obtain ⟨wc, lf, gty, H_this_typed, H_ty1, H_ty2, hlf⟩ := id HY
  obtain ⟨pnx, pf, H_this_past, pr⟩ := id HP
  obtain ⟨bkf, bkg, H_this_book, bkr⟩ := id HB
  obtain ⟨ro, pl, to, ow, lb, HLN, hpl, hto, how, hlb⟩ := id HN
  obtain ⟨H_this_now, H_np, H_this_now_total, H_this_now_owner, H_nlb, H_nro, H_nrt⟩ := id HLN
  obtain ⟨fresh, tb, bf, HSU, hsu⟩ := id HS
  have H_this_survey := HSU.1
  obtain ⟨hB1, hB2⟩ := lt_B_up hq
  have hBl := br_len hB1 hB2
  simp only at hB1 hBl
  have hdr : ∀ m, 1 ≤ m → m ≤ 200 → 0 ≤ dp_t (lt_c (TXq T m)) T.1.length ∧ dp_t (lt_c (TXq T m)) T.1.length < 2000000000 := fun m m1 m2 => by
    have := dp_t_r (lt_cok (TXq_ok HO.1 m1 m2)) T.1.length (Nat.le_refl _)
    omega
  obtain ⟨k, k1, k2, k3⟩ := dp_has (f := (fun i => dp_t (lt_c (TXq T (a + i))) T.1.length)) (n := d + 1) (by omega) (fun i hi => (hdr (a + i) (by omega) (by omega)).2)
  have hk := k1.1
  refine V_iload_n eX9_best_0 rfl rfl ?_
  refine V_iconst eX9_best_1 ?_
  refine V_icmp_lt (tgt := 26) eX9_best_2 rfl (by omega) (fun c_2 => ?_) (fun c_2 => ?_)
  · exact absurd c_2 (by omega)
  · refine V_iload_n eX9_best_5 rfl rfl ?_
    refine V_sipush eX9_best_6 (by decide) ?_
    refine V_icmp_gt (tgt := 26) eX9_best_9 rfl (by omega) (fun c_9 => ?_) (fun c_9 => ?_)
    · exact absurd c_9 (by omega)
    · refine V_iload_n eX9_best_12 rfl rfl ?_
      refine V_iload_n eX9_best_13 rfl rfl ?_
      refine V_icmp_gt (tgt := 26) eX9_best_14 rfl (by omega) (fun c_14 => ?_) (fun c_14 => ?_)
      · exact absurd c_14 (by omega)
      · refine V_iload_n eX9_best_17 rfl rfl ?_
        refine V_if_lt (tgt := 26) eX9_best_18 rfl (by omega) (fun c_18 => ?_) (fun c_18 => ?_)
        · exact absurd c_18 (by omega)
        · refine V_iload_n eX9_best_21 rfl rfl ?_
          refine V_iconst eX9_best_22 ?_
          refine V_icmp_le (tgt := 29) eX9_best_23 rfl (by omega) (fun c_23 => ?_) (fun c_23 => ?_)
          · refine V_aload_n eX9_best_29 rfl rfl ?_
            refine V_cvg eX9_best_30 (c_X9_surveyed HX HT HO.1 HL HS) H_this rfl rfl (Nat.le_of_ble_eq_true rfl) ⟨rfl, rfl⟩ ⟨Nat.zero_le _, Nat.zero_le _⟩ (fun h1 ⟨⟨⟨tb1, bf1, HS1, hfl1⟩, HL1⟩, hfr⟩ => ?_)
            show eb_V _ _ 33 _ [.ref 58] _ _ _
            have H_this : h1 0 = _ := (hfr 0 (by omega)).trans H_this
            have H_sv := HS1.1
            have H_this_text : h1 1 = _ := (hfr 1 (by omega)).trans H_this_text
            have hbm : ∀ m, 1 ≤ m → m ≤ 200 → bf1 m = (br_mk (lt_B (TXq T m)) : Int) ∧ br_mk (lt_B (TXq T m)) < 2 ^ 41 := fun m m1 m2 => ⟨(hfl1 m m1 m2).2, br_mk_lt (fun x hx => by have := (lt_B_up (TXq_ok HO.1 m1 m2)).1 x hx; have e : (TXq T m).1 = T.1.length := rfl; omega)⟩
            have XR1 : XR h1 T ty fa past seed i0 i1 sees book := HR'.re (fun x a b => hfr x (by omega)) (fun x a b => hfr x (by omega)) (HN.kept (fun x a b => hfr x (by omega))) HL1 ⟨1, tb1, bf1, HS1, Or.inr ⟨rfl, hfl1⟩⟩
            refine V_astore eX9_best_33 (Nat.le_of_ble_eq_true rfl) rfl (eb_sS (eb_sS (eb_sS (eb_sS eb_s0)))) ?_
            refine V_aload eX9_best_35 rfl ?_
            refine V_iload_n eX9_best_37 rfl rfl ?_
            refine V_iload_n eX9_best_38 rfl rfl ?_
            refine V_cvi eX9_best_39 (c_X6_bestMeasure HS1 ha hd (fun m m1 m2 => by rw [(hfl1 m m1 m2).1]; exact hdr m m1 m2)) H_sv rfl rfl (Nat.le_of_ble_eq_true rfl) ⟨rfl, rfl⟩ ⟨Nat.zero_le _, Nat.zero_le _⟩ ?_
            rw [dp_a_congr (g := (fun i => dp_t (lt_c (TXq T (a + i))) T.1.length)) (fun i hi => (hfl1 (a + i) (by omega) (by omega)).1), k3]
            refine V_istore eX9_best_42 (Nat.le_of_ble_eq_true rfl) rfl (eb_sS (eb_sS (eb_sS (eb_sS (eb_sS eb_s0))))) ?_
            refine V_iload_n eX9_best_44 rfl rfl ?_
            refine V_if_ne (tgt := 53) eX9_best_45 rfl (by omega) (fun c_45 => ?_) (fun c_45 => ?_)
            · refine V_aload eX9_best_53 rfl ?_
              refine V_getf eX9_best_55 H_sv rfl ?_
              refine V_iload eX9_best_58 rfl ?_
              refine V_iald eX9_best_60 HS1.2.1 (by omega) ?_
              rw [show ((a : Int) + (k : Int)).toNat = a + k by omega, (hfl1 (a + k) (by omega) (by omega)).1]
              rw [k2]
              exact V_iret eX9_best_61 ⟨Nat.zero_le _, Nat.zero_le _⟩ rfl (rfl) (⟨rfl, rfl, XR1, fun k hk => hfr k (by omega)⟩)
            · exact absurd c_45 (by omega)
          · exact absurd (by omega) c_23
theorem x9_end_unk {e w : Int} (HR : XR h T ty fa past seed i0 i1 sees book) (HO : SOK T ty fa past seed i0 i1 sees book) (he : -2147483648 ≤ e ∧ e ≤ 2147483647) (hc : ¬ (0 ≤ e ∧ e ≤ (T.1.length : Int))) : eb_T mX9_end [.ref 0, .int (eb_I e), .int (eb_I w)] n h (eb_G (some (.int (eb_I (-1000000001)))) n (fun h' => XR h' T ty fa past seed i0 i1 sees book ∧ F67 h h')) := by
  refine eb_T.of (by decide +kernel) (Nat.le_of_ble_eq_true rfl) ?_
  show eb_V _ _ 0 [.ref 0, .int (eb_I e), .int (eb_I w)] [] (n, 0, 0) h _
  have HR' := HR
  obtain ⟨HX, HT, HY, HP, HD, HB, HN, HL, HS, HI0, HI1⟩ := HR
  have H_this := HX.1
  have hN : T.1.length ≤ 40 := HO.1.1.1
  have hq := tx_lok HO.1
  obtain ⟨H_this_text, ftx, H_this_text_words, hftx⟩ := id HT
  obtain ⟨wc, lf, gty, H_this_typed, H_ty1, H_ty2, hlf⟩ := id HY
  obtain ⟨pnx, pf, H_this_past, pr⟩ := id HP
  obtain ⟨bkf, bkg, H_this_book, bkr⟩ := id HB
  obtain ⟨ro, pl, to, ow, lb, HLN, hpl, hto, how, hlb⟩ := id HN
  obtain ⟨H_this_now, H_np, H_this_now_total, H_this_now_owner, H_nlb, H_nro, H_nrt⟩ := id HLN
  obtain ⟨fresh, tb, bf, HSU, hsu⟩ := id HS
  have H_this_survey := HSU.1
  obtain ⟨hB1, hB2⟩ := lt_B_up hq
  have hBl := br_len hB1 hB2
  simp only at hB1 hBl
  refine V_aload_n eX9_end_0 rfl rfl ?_
  refine V_getf eX9_end_1 H_this rfl ?_
  refine V_iload_n eX9_end_4 rfl rfl ?_
  refine V_cvi eX9_end_5 (c_X7_hasEnd HT hN he) H_this_text rfl rfl (Nat.le_of_ble_eq_true rfl) ⟨rfl, rfl⟩ ⟨Nat.zero_le _, Nat.zero_le _⟩ ?_
  rw [if_neg hc]
  refine V_if_ne (tgt := 14) eX9_end_8 rfl (by omega) (fun c_8 => ?_) (fun c_8 => ?_)
  · exact absurd rfl c_8
  · refine V_ldc (a := -1000000001) eX9_end_11 wd_511 (by decide) ?_
    exact V_iret eX9_end_13 ⟨Nat.zero_le _, Nat.zero_le _⟩ rfl (rfl) (⟨rfl, rfl, HR', F67.rf⟩)
theorem x9_end_out {e : Nat} {w : Int} (HR : XR h T ty fa past seed i0 i1 sees book) (HO : SOK T ty fa past seed i0 i1 sees book) (hc : e ≤ T.1.length) (hw : -2147483648 ≤ w ∧ w ≤ 2147483647) (hw2 : ¬ (0 ≤ w ∧ w ≤ 2)) : eb_T mX9_end [.ref 0, .int (eb_I (e : Int)), .int (eb_I w)] n h (eb_G (some (.int (eb_I (-1000000002)))) n (fun h' => XR h' T ty fa past seed i0 i1 sees book ∧ F67 h h')) := by
  refine eb_T.of (by decide +kernel) (Nat.le_of_ble_eq_true rfl) ?_
  show eb_V _ _ 0 [.ref 0, .int (eb_I (e : Int)), .int (eb_I w)] [] (n, 0, 0) h _
  have HR' := HR
  obtain ⟨HX, HT, HY, HP, HD, HB, HN, HL, HS, HI0, HI1⟩ := HR
  have H_this := HX.1
  have hN : T.1.length ≤ 40 := HO.1.1.1
  have hq := tx_lok HO.1
  obtain ⟨H_this_text, ftx, H_this_text_words, hftx⟩ := id HT
  obtain ⟨wc, lf, gty, H_this_typed, H_ty1, H_ty2, hlf⟩ := id HY
  obtain ⟨pnx, pf, H_this_past, pr⟩ := id HP
  obtain ⟨bkf, bkg, H_this_book, bkr⟩ := id HB
  obtain ⟨ro, pl, to, ow, lb, HLN, hpl, hto, how, hlb⟩ := id HN
  obtain ⟨H_this_now, H_np, H_this_now_total, H_this_now_owner, H_nlb, H_nro, H_nrt⟩ := id HLN
  obtain ⟨fresh, tb, bf, HSU, hsu⟩ := id HS
  have H_this_survey := HSU.1
  obtain ⟨hB1, hB2⟩ := lt_B_up hq
  have hBl := br_len hB1 hB2
  simp only at hB1 hBl
  refine V_aload_n eX9_end_0 rfl rfl ?_
  refine V_getf eX9_end_1 H_this rfl ?_
  refine V_iload_n eX9_end_4 rfl rfl ?_
  refine V_cvi eX9_end_5 (c_X7_hasEnd HT hN (by omega)) H_this_text rfl rfl (Nat.le_of_ble_eq_true rfl) ⟨rfl, rfl⟩ ⟨Nat.zero_le _, Nat.zero_le _⟩ ?_
  rw [if_pos (by omega)]
  refine V_if_ne (tgt := 14) eX9_end_8 rfl (by omega) (fun c_8 => ?_) (fun c_8 => ?_)
  · refine V_iload_n eX9_end_14 rfl rfl ?_
    refine V_tswOut (tgt := 69) eX9_end_15 (hw) (by omega) rfl ?_
    refine V_ldc (a := -1000000002) eX9_end_69 wd_376 (by decide) ?_
    exact V_iret eX9_end_71 ⟨Nat.zero_le _, Nat.zero_le _⟩ rfl (rfl) (⟨rfl, rfl, HR', F67.rf⟩)
  · exact absurd c_8 (by omega)
theorem x9_end_0 {e : Nat} (HR : XR h T ty fa past seed i0 i1 sees book) (HO : SOK T ty fa past seed i0 i1 sees book) (hc : e ≤ T.1.length) : eb_T mX9_end [.ref 0, .int (eb_I (e : Int)), .int (eb_I 0)] n h (eb_G (some (.int (eb_I (dp_t (lt_c (txq T)) e)))) n (fun h' => XR h' T ty fa past seed i0 i1 sees book ∧ F67 h h')) := by
  refine eb_T.of (by decide +kernel) (Nat.le_of_ble_eq_true rfl) ?_
  show eb_V _ _ 0 [.ref 0, .int (eb_I (e : Int)), .int (eb_I 0)] [] (n, 0, 0) h _
  have HR' := HR
  obtain ⟨HX, HT, HY, HP, HD, HB, HN, HL, HS, HI0, HI1⟩ := HR
  have H_this := HX.1
  have hN : T.1.length ≤ 40 := HO.1.1.1
  have hq := tx_lok HO.1
  obtain ⟨H_this_text, ftx, H_this_text_words, hftx⟩ := id HT
  obtain ⟨wc, lf, gty, H_this_typed, H_ty1, H_ty2, hlf⟩ := id HY
  obtain ⟨pnx, pf, H_this_past, pr⟩ := id HP
  obtain ⟨bkf, bkg, H_this_book, bkr⟩ := id HB
  obtain ⟨ro, pl, to, ow, lb, HLN, hpl, hto, how, hlb⟩ := id HN
  obtain ⟨H_this_now, H_np, H_this_now_total, H_this_now_owner, H_nlb, H_nro, H_nrt⟩ := id HLN
  obtain ⟨fresh, tb, bf, HSU, hsu⟩ := id HS
  have H_this_survey := HSU.1
  obtain ⟨hB1, hB2⟩ := lt_B_up hq
  have hBl := br_len hB1 hB2
  simp only at hB1 hBl
  refine V_aload_n eX9_end_0 rfl rfl ?_
  refine V_getf eX9_end_1 H_this rfl ?_
  refine V_iload_n eX9_end_4 rfl rfl ?_
  refine V_cvi eX9_end_5 (c_X7_hasEnd HT hN (by omega)) H_this_text rfl rfl (Nat.le_of_ble_eq_true rfl) ⟨rfl, rfl⟩ ⟨Nat.zero_le _, Nat.zero_le _⟩ ?_
  rw [if_pos (by omega)]
  refine V_if_ne (tgt := 14) eX9_end_8 rfl (by omega) (fun c_8 => ?_) (fun c_8 => ?_)
  · refine V_iload_n eX9_end_14 rfl rfl ?_
    refine V_tswIn (tgt := 40) (off := 25) eX9_end_15 (by omega) (by omega) rfl rfl ?_
    refine V_aload_n eX9_end_40 rfl rfl ?_
    refine V_getf eX9_end_41 H_this rfl ?_
    refine V_getf eX9_end_44 H_this_now rfl ?_
    refine V_iload_n eX9_end_47 rfl rfl ?_
    refine V_iald eX9_end_48 H_this_now_total (by omega) ?_
    rw [Int.toNat_natCast, hto e hc]
    exact V_iret eX9_end_49 ⟨Nat.zero_le _, Nat.zero_le _⟩ rfl (rfl) (⟨rfl, rfl, HR', F67.rf⟩)
  · exact absurd c_8 (by omega)
theorem x9_end_1 {e : Nat} (HR : XR h T ty fa past seed i0 i1 sees book) (HO : SOK T ty fa past seed i0 i1 sees book) (hc : e ≤ T.1.length) : eb_T mX9_end [.ref 0, .int (eb_I (e : Int)), .int (eb_I 1)] n h (eb_G (some (.int (eb_I (dp_o (lt_c (txq T)) e)))) n (fun h' => XR h' T ty fa past seed i0 i1 sees book ∧ F67 h h')) := by
  refine eb_T.of (by decide +kernel) (Nat.le_of_ble_eq_true rfl) ?_
  show eb_V _ _ 0 [.ref 0, .int (eb_I (e : Int)), .int (eb_I 1)] [] (n, 0, 0) h _
  have HR' := HR
  obtain ⟨HX, HT, HY, HP, HD, HB, HN, HL, HS, HI0, HI1⟩ := HR
  have H_this := HX.1
  have hN : T.1.length ≤ 40 := HO.1.1.1
  have hq := tx_lok HO.1
  obtain ⟨H_this_text, ftx, H_this_text_words, hftx⟩ := id HT
  obtain ⟨wc, lf, gty, H_this_typed, H_ty1, H_ty2, hlf⟩ := id HY
  obtain ⟨pnx, pf, H_this_past, pr⟩ := id HP
  obtain ⟨bkf, bkg, H_this_book, bkr⟩ := id HB
  obtain ⟨ro, pl, to, ow, lb, HLN, hpl, hto, how, hlb⟩ := id HN
  obtain ⟨H_this_now, H_np, H_this_now_total, H_this_now_owner, H_nlb, H_nro, H_nrt⟩ := id HLN
  obtain ⟨fresh, tb, bf, HSU, hsu⟩ := id HS
  have H_this_survey := HSU.1
  obtain ⟨hB1, hB2⟩ := lt_B_up hq
  have hBl := br_len hB1 hB2
  simp only at hB1 hBl
  have eo : ow e = dp_o (lt_c (txq T)) e := by
    rcases Nat.eq_zero_or_pos e with z | z
    · subst z
      exact how.1
    · exact how.2 e z hc
  refine V_aload_n eX9_end_0 rfl rfl ?_
  refine V_getf eX9_end_1 H_this rfl ?_
  refine V_iload_n eX9_end_4 rfl rfl ?_
  refine V_cvi eX9_end_5 (c_X7_hasEnd HT hN (by omega)) H_this_text rfl rfl (Nat.le_of_ble_eq_true rfl) ⟨rfl, rfl⟩ ⟨Nat.zero_le _, Nat.zero_le _⟩ ?_
  rw [if_pos (by omega)]
  refine V_if_ne (tgt := 14) eX9_end_8 rfl (by omega) (fun c_8 => ?_) (fun c_8 => ?_)
  · refine V_iload_n eX9_end_14 rfl rfl ?_
    refine V_tswIn (tgt := 50) (off := 35) eX9_end_15 (by omega) (by omega) rfl rfl ?_
    refine V_aload_n eX9_end_50 rfl rfl ?_
    refine V_getf eX9_end_51 H_this rfl ?_
    refine V_getf eX9_end_54 H_this_now rfl ?_
    refine V_iload_n eX9_end_57 rfl rfl ?_
    refine V_iald eX9_end_58 H_this_now_owner (by omega) ?_
    rw [Int.toNat_natCast, eo]
    exact V_iret eX9_end_59 ⟨Nat.zero_le _, Nat.zero_le _⟩ rfl (rfl) (⟨rfl, rfl, HR', F67.rf⟩)
  · exact absurd c_8 (by omega)
theorem x9_end_2 {e : Nat} (HR : XR h T ty fa past seed i0 i1 sees book) (HO : SOK T ty fa past seed i0 i1 sees book) (hc : e ≤ T.1.length) : eb_T mX9_end [.ref 0, .int (eb_I (e : Int)), .int (eb_I 2)] n h (eb_G (some (.int (eb_I ((rn_F (fun x => lt_kn (lt_c (txq T)) x e) (e + 1) (T.1.length - e)).1)))) n (fun h' => XR h' T ty fa past seed i0 i1 sees book ∧ F67 h h')) := by
  refine eb_T.of (by decide +kernel) (Nat.le_of_ble_eq_true rfl) ?_
  show eb_V _ _ 0 [.ref 0, .int (eb_I (e : Int)), .int (eb_I 2)] [] (n, 0, 0) h _
  have HR' := HR
  obtain ⟨HX, HT, HY, HP, HD, HB, HN, HL, HS, HI0, HI1⟩ := HR
  have H_this := HX.1
  have hN : T.1.length ≤ 40 := HO.1.1.1
  have hq := tx_lok HO.1
  obtain ⟨H_this_text, ftx, H_this_text_words, hftx⟩ := id HT
  obtain ⟨wc, lf, gty, H_this_typed, H_ty1, H_ty2, hlf⟩ := id HY
  obtain ⟨pnx, pf, H_this_past, pr⟩ := id HP
  obtain ⟨bkf, bkg, H_this_book, bkr⟩ := id HB
  obtain ⟨ro, pl, to, ow, lb, HLN, hpl, hto, how, hlb⟩ := id HN
  obtain ⟨H_this_now, H_np, H_this_now_total, H_this_now_owner, H_nlb, H_nro, H_nrt⟩ := id HLN
  obtain ⟨fresh, tb, bf, HSU, hsu⟩ := id HS
  have H_this_survey := HSU.1
  obtain ⟨hB1, hB2⟩ := lt_B_up hq
  have hBl := br_len hB1 hB2
  simp only at hB1 hBl
  refine V_aload_n eX9_end_0 rfl rfl ?_
  refine V_getf eX9_end_1 H_this rfl ?_
  refine V_iload_n eX9_end_4 rfl rfl ?_
  refine V_cvi eX9_end_5 (c_X7_hasEnd HT hN (by omega)) H_this_text rfl rfl (Nat.le_of_ble_eq_true rfl) ⟨rfl, rfl⟩ ⟨Nat.zero_le _, Nat.zero_le _⟩ ?_
  rw [if_pos (by omega)]
  refine V_if_ne (tgt := 14) eX9_end_8 rfl (by omega) (fun c_8 => ?_) (fun c_8 => ?_)
  · refine V_iload_n eX9_end_14 rfl rfl ?_
    refine V_tswIn (tgt := 60) (off := 45) eX9_end_15 (by omega) (by omega) rfl rfl ?_
    refine V_aload_n eX9_end_60 rfl rfl ?_
    refine V_getf eX9_end_61 H_this rfl ?_
    refine V_iload_n eX9_end_64 rfl rfl ?_
    refine V_cvi eX9_end_65 (c_X3_runsAt HLN hq hpl hto hc) H_this_now rfl rfl (Nat.le_of_ble_eq_true rfl) ⟨rfl, rfl⟩ ⟨Nat.zero_le _, Nat.zero_le _⟩ ?_
    exact V_iret eX9_end_68 ⟨Nat.zero_le _, Nat.zero_le _⟩ rfl (rfl) (⟨rfl, rfl, HR', F67.rf⟩)
  · exact absurd c_8 (by omega)
theorem x9_word_unk {w x : Int} (HR : XR h T ty fa past seed i0 i1 sees book) (HO : SOK T ty fa past seed i0 i1 sees book) (hw : -2147483648 ≤ w ∧ w ≤ 2147483647) (hc : ¬ (0 ≤ w ∧ w < (T.1.length : Int))) : eb_T mX9_word [.ref 0, .int (eb_I w), .int (eb_I x)] n h (eb_G (some (.int (eb_I (-1000000001)))) n (fun h' => XR h' T ty fa past seed i0 i1 sees book ∧ F67 h h')) := by
  refine eb_T.of (by decide +kernel) (Nat.le_of_ble_eq_true rfl) ?_
  show eb_V _ _ 0 [.ref 0, .int (eb_I w), .int (eb_I x)] [] (n, 0, 0) h _
  have HR' := HR
  obtain ⟨HX, HT, HY, HP, HD, HB, HN, HL, HS, HI0, HI1⟩ := HR
  have H_this := HX.1
  have hN : T.1.length ≤ 40 := HO.1.1.1
  have hq := tx_lok HO.1
  obtain ⟨H_this_text, ftx, H_this_text_words, hftx⟩ := id HT
  obtain ⟨wc, lf, gty, H_this_typed, H_ty1, H_ty2, hlf⟩ := id HY
  obtain ⟨pnx, pf, H_this_past, pr⟩ := id HP
  obtain ⟨bkf, bkg, H_this_book, bkr⟩ := id HB
  obtain ⟨ro, pl, to, ow, lb, HLN, hpl, hto, how, hlb⟩ := id HN
  obtain ⟨H_this_now, H_np, H_this_now_total, H_this_now_owner, H_nlb, H_nro, H_nrt⟩ := id HLN
  obtain ⟨fresh, tb, bf, HSU, hsu⟩ := id HS
  have H_this_survey := HSU.1
  obtain ⟨hB1, hB2⟩ := lt_B_up hq
  have hBl := br_len hB1 hB2
  simp only at hB1 hBl
  refine V_aload_n eX9_word_0 rfl rfl ?_
  refine V_getf eX9_word_1 H_this rfl ?_
  refine V_iload_n eX9_word_4 rfl rfl ?_
  refine V_cvi eX9_word_5 (c_X7_hasWord HT hN hw) H_this_text rfl rfl (Nat.le_of_ble_eq_true rfl) ⟨rfl, rfl⟩ ⟨Nat.zero_le _, Nat.zero_le _⟩ ?_
  rw [if_neg hc]
  refine V_if_ne (tgt := 14) eX9_word_8 rfl (by omega) (fun c_8 => ?_) (fun c_8 => ?_)
  · exact absurd rfl c_8
  · refine V_ldc (a := -1000000001) eX9_word_11 wd_511 (by decide) ?_
    exact V_iret eX9_word_13 ⟨Nat.zero_le _, Nat.zero_le _⟩ rfl (rfl) (⟨rfl, rfl, HR', F67.rf⟩)
theorem x9_word_out {w : Nat} {x : Int} (HR : XR h T ty fa past seed i0 i1 sees book) (HO : SOK T ty fa past seed i0 i1 sees book) (hc : w < T.1.length) (hx : -2147483648 ≤ x ∧ x ≤ 2147483647) (hx2 : ¬ (0 ≤ x ∧ x ≤ 15)) : eb_T mX9_word [.ref 0, .int (eb_I (w : Int)), .int (eb_I x)] n h (eb_G (some (.int (eb_I (-1000000002)))) n (fun h' => XR h' T ty fa past seed i0 i1 sees book ∧ F67 h h')) := by
  refine eb_T.of (by decide +kernel) (Nat.le_of_ble_eq_true rfl) ?_
  show eb_V _ _ 0 [.ref 0, .int (eb_I (w : Int)), .int (eb_I x)] [] (n, 0, 0) h _
  have HR' := HR
  obtain ⟨HX, HT, HY, HP, HD, HB, HN, HL, HS, HI0, HI1⟩ := HR
  have H_this := HX.1
  have hN : T.1.length ≤ 40 := HO.1.1.1
  have hq := tx_lok HO.1
  obtain ⟨H_this_text, ftx, H_this_text_words, hftx⟩ := id HT
  obtain ⟨wc, lf, gty, H_this_typed, H_ty1, H_ty2, hlf⟩ := id HY
  obtain ⟨pnx, pf, H_this_past, pr⟩ := id HP
  obtain ⟨bkf, bkg, H_this_book, bkr⟩ := id HB
  obtain ⟨ro, pl, to, ow, lb, HLN, hpl, hto, how, hlb⟩ := id HN
  obtain ⟨H_this_now, H_np, H_this_now_total, H_this_now_owner, H_nlb, H_nro, H_nrt⟩ := id HLN
  obtain ⟨fresh, tb, bf, HSU, hsu⟩ := id HS
  have H_this_survey := HSU.1
  obtain ⟨hB1, hB2⟩ := lt_B_up hq
  have hBl := br_len hB1 hB2
  simp only at hB1 hBl
  refine V_aload_n eX9_word_0 rfl rfl ?_
  refine V_getf eX9_word_1 H_this rfl ?_
  refine V_iload_n eX9_word_4 rfl rfl ?_
  refine V_cvi eX9_word_5 (c_X7_hasWord HT hN (by omega)) H_this_text rfl rfl (Nat.le_of_ble_eq_true rfl) ⟨rfl, rfl⟩ ⟨Nat.zero_le _, Nat.zero_le _⟩ ?_
  rw [if_pos (by omega)]
  refine V_if_ne (tgt := 14) eX9_word_8 rfl (by omega) (fun c_8 => ?_) (fun c_8 => ?_)
  · refine V_iload_n eX9_word_14 rfl rfl ?_
    refine V_if_lt (tgt := 24) eX9_word_15 rfl (by omega) (fun c_15 => ?_) (fun c_15 => ?_)
    · refine V_ldc (a := -1000000002) eX9_word_24 wd_376 (by decide) ?_
      exact V_iret eX9_word_26 ⟨Nat.zero_le _, Nat.zero_le _⟩ rfl (rfl) (⟨rfl, rfl, HR', F67.rf⟩)
    · refine V_iload_n eX9_word_18 rfl rfl ?_
      refine V_bipush eX9_word_19 (by decide) ?_
      refine V_icmp_le (tgt := 27) eX9_word_21 rfl (by omega) (fun c_21 => ?_) (fun c_21 => ?_)
      · exact absurd c_21 (by omega)
      · refine V_ldc (a := -1000000002) eX9_word_24 wd_376 (by decide) ?_
        exact V_iret eX9_word_26 ⟨Nat.zero_le _, Nat.zero_le _⟩ rfl (rfl) (⟨rfl, rfl, HR', F67.rf⟩)
  · exact absurd c_8 (by omega)
theorem x9_word_0 {w : Nat} (HR : XR h T ty fa past seed i0 i1 sees book) (HO : SOK T ty fa past seed i0 i1 sees book) (hc : w < T.1.length) : eb_T mX9_word [.ref 0, .int (eb_I (w : Int)), .int (eb_I 0)] n h (eb_G (some (.int (eb_I (sp_ww (T.1.getD w []))))) n (fun h' => XR h' T ty fa past seed i0 i1 sees book ∧ F67 h h')) := by
  refine eb_T.of (by decide +kernel) (Nat.le_of_ble_eq_true rfl) ?_
  show eb_V _ _ 0 [.ref 0, .int (eb_I (w : Int)), .int (eb_I 0)] [] (n, 0, 0) h _
  have HR' := HR
  obtain ⟨HX, HT, HY, HP, HD, HB, HN, HL, HS, HI0, HI1⟩ := HR
  have H_this := HX.1
  have hN : T.1.length ≤ 40 := HO.1.1.1
  have hq := tx_lok HO.1
  obtain ⟨H_this_text, ftx, H_this_text_words, hftx⟩ := id HT
  obtain ⟨wc, lf, gty, H_this_typed, H_ty1, H_ty2, hlf⟩ := id HY
  obtain ⟨pnx, pf, H_this_past, pr⟩ := id HP
  obtain ⟨bkf, bkg, H_this_book, bkr⟩ := id HB
  obtain ⟨ro, pl, to, ow, lb, HLN, hpl, hto, how, hlb⟩ := id HN
  obtain ⟨H_this_now, H_np, H_this_now_total, H_this_now_owner, H_nlb, H_nro, H_nrt⟩ := id HLN
  obtain ⟨fresh, tb, bf, HSU, hsu⟩ := id HS
  have H_this_survey := HSU.1
  obtain ⟨hB1, hB2⟩ := lt_B_up hq
  have hBl := br_len hB1 hB2
  simp only at hB1 hBl
  have hl0 := HO.1.2 T.1[w] (List.getElem_mem hc)
  have hgd : T.1.getD w [] = T.1[w] := by simp [hc]
  rw [hgd]
  refine V_aload_n eX9_word_0 rfl rfl ?_
  refine V_getf eX9_word_1 H_this rfl ?_
  refine V_iload_n eX9_word_4 rfl rfl ?_
  refine V_cvi eX9_word_5 (c_X7_hasWord HT hN (by omega)) H_this_text rfl rfl (Nat.le_of_ble_eq_true rfl) ⟨rfl, rfl⟩ ⟨Nat.zero_le _, Nat.zero_le _⟩ ?_
  rw [if_pos (by omega)]
  refine V_if_ne (tgt := 14) eX9_word_8 rfl (by omega) (fun c_8 => ?_) (fun c_8 => ?_)
  · refine V_iload_n eX9_word_14 rfl rfl ?_
    refine V_if_lt (tgt := 24) eX9_word_15 rfl (by omega) (fun c_15 => ?_) (fun c_15 => ?_)
    · exact absurd c_15 (by omega)
    · refine V_iload_n eX9_word_18 rfl rfl ?_
      refine V_bipush eX9_word_19 (by decide) ?_
      refine V_icmp_le (tgt := 27) eX9_word_21 rfl (by omega) (fun c_21 => ?_) (fun c_21 => ?_)
      · refine V_iload_n eX9_word_27 rfl rfl ?_
        refine V_tswIn (tgt := 60) (off := 32) eX9_word_28 (by omega) (by omega) rfl rfl ?_
        refine V_aload_n eX9_word_60 rfl rfl ?_
        refine V_getf eX9_word_61 H_this rfl ?_
        refine V_getf eX9_word_64 H_this_text rfl ?_
        refine V_iload_n eX9_word_67 rfl rfl ?_
        refine V_lald eX9_word_68 H_this_text_words (by omega) ?_
        rw [Int.toNat_natCast, hftx w hc]
        refine V_csi eX9_word_69 (c_X5_widthOf hl0.1) rfl rfl (Nat.le_of_ble_eq_true rfl) ⟨rfl, rfl⟩ ⟨Nat.zero_le _, Nat.zero_le _⟩ ?_
        exact V_iret eX9_word_72 ⟨Nat.zero_le _, Nat.zero_le _⟩ rfl (rfl) (⟨rfl, rfl, HR', F67.rf⟩)
      · exact absurd (by omega) c_21
  · exact absurd c_8 (by omega)
theorem x9_word_1 {w : Nat} (HR : XR h T ty fa past seed i0 i1 sees book) (HO : SOK T ty fa past seed i0 i1 sees book) (hc : w < T.1.length) : eb_T mX9_word [.ref 0, .int (eb_I (w : Int)), .int (eb_I 1)] n h (eb_G (some (.int (eb_I (((T.1.getD w []).length : Int))))) n (fun h' => XR h' T ty fa past seed i0 i1 sees book ∧ F67 h h')) := by
  refine eb_T.of (by decide +kernel) (Nat.le_of_ble_eq_true rfl) ?_
  show eb_V _ _ 0 [.ref 0, .int (eb_I (w : Int)), .int (eb_I 1)] [] (n, 0, 0) h _
  have HR' := HR
  obtain ⟨HX, HT, HY, HP, HD, HB, HN, HL, HS, HI0, HI1⟩ := HR
  have H_this := HX.1
  have hN : T.1.length ≤ 40 := HO.1.1.1
  have hq := tx_lok HO.1
  obtain ⟨H_this_text, ftx, H_this_text_words, hftx⟩ := id HT
  obtain ⟨wc, lf, gty, H_this_typed, H_ty1, H_ty2, hlf⟩ := id HY
  obtain ⟨pnx, pf, H_this_past, pr⟩ := id HP
  obtain ⟨bkf, bkg, H_this_book, bkr⟩ := id HB
  obtain ⟨ro, pl, to, ow, lb, HLN, hpl, hto, how, hlb⟩ := id HN
  obtain ⟨H_this_now, H_np, H_this_now_total, H_this_now_owner, H_nlb, H_nro, H_nrt⟩ := id HLN
  obtain ⟨fresh, tb, bf, HSU, hsu⟩ := id HS
  have H_this_survey := HSU.1
  obtain ⟨hB1, hB2⟩ := lt_B_up hq
  have hBl := br_len hB1 hB2
  simp only at hB1 hBl
  have hl0 := HO.1.2 T.1[w] (List.getElem_mem hc)
  have hgd : T.1.getD w [] = T.1[w] := by simp [hc]
  rw [hgd]
  refine V_aload_n eX9_word_0 rfl rfl ?_
  refine V_getf eX9_word_1 H_this rfl ?_
  refine V_iload_n eX9_word_4 rfl rfl ?_
  refine V_cvi eX9_word_5 (c_X7_hasWord HT hN (by omega)) H_this_text rfl rfl (Nat.le_of_ble_eq_true rfl) ⟨rfl, rfl⟩ ⟨Nat.zero_le _, Nat.zero_le _⟩ ?_
  rw [if_pos (by omega)]
  refine V_if_ne (tgt := 14) eX9_word_8 rfl (by omega) (fun c_8 => ?_) (fun c_8 => ?_)
  · refine V_iload_n eX9_word_14 rfl rfl ?_
    refine V_if_lt (tgt := 24) eX9_word_15 rfl (by omega) (fun c_15 => ?_) (fun c_15 => ?_)
    · exact absurd c_15 (by omega)
    · refine V_iload_n eX9_word_18 rfl rfl ?_
      refine V_bipush eX9_word_19 (by decide) ?_
      refine V_icmp_le (tgt := 27) eX9_word_21 rfl (by omega) (fun c_21 => ?_) (fun c_21 => ?_)
      · refine V_iload_n eX9_word_27 rfl rfl ?_
        refine V_tswIn (tgt := 73) (off := 45) eX9_word_28 (by omega) (by omega) rfl rfl ?_
        refine V_aload_n eX9_word_73 rfl rfl ?_
        refine V_getf eX9_word_74 H_this rfl ?_
        refine V_getf eX9_word_77 H_this_text rfl ?_
        refine V_iload_n eX9_word_80 rfl rfl ?_
        refine V_lald eX9_word_81 H_this_text_words (by omega) ?_
        rw [Int.toNat_natCast, hftx w hc]
        refine V_csi eX9_word_82 (c_X5_lengthOf hl0.1) rfl rfl (Nat.le_of_ble_eq_true rfl) ⟨rfl, rfl⟩ ⟨Nat.zero_le _, Nat.zero_le _⟩ ?_
        exact V_iret eX9_word_85 ⟨Nat.zero_le _, Nat.zero_le _⟩ rfl (rfl) (⟨rfl, rfl, HR', F67.rf⟩)
      · exact absurd (by omega) c_21
  · exact absurd c_8 (by omega)
theorem x9_word_2 {w : Nat} (HR : XR h T ty fa past seed i0 i1 sees book) (HO : SOK T ty fa past seed i0 i1 sees book) (hc : w < T.1.length) : eb_T mX9_word [.ref 0, .int (eb_I (w : Int)), .int (eb_I 2)] n h (eb_G (some (.int (eb_I ((br_ln (lt_B (txq T)) w (lt_B (txq T)).length 0 : Nat))))) n (fun h' => XR h' T ty fa past seed i0 i1 sees book ∧ F67 h h')) := by
  refine eb_T.of (by decide +kernel) (Nat.le_of_ble_eq_true rfl) ?_
  show eb_V _ _ 0 [.ref 0, .int (eb_I (w : Int)), .int (eb_I 2)] [] (n, 0, 0) h _
  have HR' := HR
  obtain ⟨HX, HT, HY, HP, HD, HB, HN, HL, HS, HI0, HI1⟩ := HR
  have H_this := HX.1
  have hN : T.1.length ≤ 40 := HO.1.1.1
  have hq := tx_lok HO.1
  obtain ⟨H_this_text, ftx, H_this_text_words, hftx⟩ := id HT
  obtain ⟨wc, lf, gty, H_this_typed, H_ty1, H_ty2, hlf⟩ := id HY
  obtain ⟨pnx, pf, H_this_past, pr⟩ := id HP
  obtain ⟨bkf, bkg, H_this_book, bkr⟩ := id HB
  obtain ⟨ro, pl, to, ow, lb, HLN, hpl, hto, how, hlb⟩ := id HN
  obtain ⟨H_this_now, H_np, H_this_now_total, H_this_now_owner, H_nlb, H_nro, H_nrt⟩ := id HLN
  obtain ⟨fresh, tb, bf, HSU, hsu⟩ := id HS
  have H_this_survey := HSU.1
  obtain ⟨hB1, hB2⟩ := lt_B_up hq
  have hBl := br_len hB1 hB2
  simp only at hB1 hBl
  refine V_aload_n eX9_word_0 rfl rfl ?_
  refine V_getf eX9_word_1 H_this rfl ?_
  refine V_iload_n eX9_word_4 rfl rfl ?_
  refine V_cvi eX9_word_5 (c_X7_hasWord HT hN (by omega)) H_this_text rfl rfl (Nat.le_of_ble_eq_true rfl) ⟨rfl, rfl⟩ ⟨Nat.zero_le _, Nat.zero_le _⟩ ?_
  rw [if_pos (by omega)]
  refine V_if_ne (tgt := 14) eX9_word_8 rfl (by omega) (fun c_8 => ?_) (fun c_8 => ?_)
  · refine V_iload_n eX9_word_14 rfl rfl ?_
    refine V_if_lt (tgt := 24) eX9_word_15 rfl (by omega) (fun c_15 => ?_) (fun c_15 => ?_)
    · exact absurd c_15 (by omega)
    · refine V_iload_n eX9_word_18 rfl rfl ?_
      refine V_bipush eX9_word_19 (by decide) ?_
      refine V_icmp_le (tgt := 27) eX9_word_21 rfl (by omega) (fun c_21 => ?_) (fun c_21 => ?_)
      · refine V_iload_n eX9_word_27 rfl rfl ?_
        refine V_tswIn (tgt := 86) (off := 58) eX9_word_28 (by omega) (by omega) rfl rfl ?_
        refine V_aload_n eX9_word_86 rfl rfl ?_
        refine V_getf eX9_word_87 H_this rfl ?_
        refine V_iload_n eX9_word_90 rfl rfl ?_
        refine V_cvi eX9_word_91 (c_X3_lineOf HLN (by omega) (fun x hx => by have := hB1 x hx; omega) (by omega) hlb) H_this_now rfl rfl (Nat.le_of_ble_eq_true rfl) ⟨rfl, rfl⟩ ⟨Nat.zero_le _, Nat.zero_le _⟩ ?_
        exact V_iret eX9_word_94 ⟨Nat.zero_le _, Nat.zero_le _⟩ rfl (rfl) (⟨rfl, rfl, HR', F67.rf⟩)
      · exact absurd (by omega) c_21
  · exact absurd c_8 (by omega)
theorem x9_word_3 {w : Nat} {v : Int} (HR : XR h T ty fa past seed i0 i1 sees book) (HO : SOK T ty fa past seed i0 i1 sees book) (hc : w < T.1.length) (hv : lc (fun m => (1 ≤ m ∧ m ≤ 50) ∧ br_mk (gw_B T w m) ≠ br_mk (gw_B T w 0)) v) : eb_T mX9_word [.ref 0, .int (eb_I (w : Int)), .int (eb_I 3)] n h (eb_G (some (.int (eb_I (v)))) n (fun h' => XR h' T ty fa past seed i0 i1 sees book ∧ F67 h h')) := by
  refine eb_T.of (by decide +kernel) (Nat.le_of_ble_eq_true rfl) ?_
  show eb_V _ _ 0 [.ref 0, .int (eb_I (w : Int)), .int (eb_I 3)] [] (n, 0, 0) h _
  have HR' := HR
  obtain ⟨HX, HT, HY, HP, HD, HB, HN, HL, HS, HI0, HI1⟩ := HR
  have H_this := HX.1
  have hN : T.1.length ≤ 40 := HO.1.1.1
  have hq := tx_lok HO.1
  obtain ⟨H_this_text, ftx, H_this_text_words, hftx⟩ := id HT
  obtain ⟨wc, lf, gty, H_this_typed, H_ty1, H_ty2, hlf⟩ := id HY
  obtain ⟨pnx, pf, H_this_past, pr⟩ := id HP
  obtain ⟨bkf, bkg, H_this_book, bkr⟩ := id HB
  obtain ⟨ro, pl, to, ow, lb, HLN, hpl, hto, how, hlb⟩ := id HN
  obtain ⟨H_this_now, H_np, H_this_now_total, H_this_now_owner, H_nlb, H_nro, H_nrt⟩ := id HLN
  obtain ⟨fresh, tb, bf, HSU, hsu⟩ := id HS
  have H_this_survey := HSU.1
  obtain ⟨hB1, hB2⟩ := lt_B_up hq
  have hBl := br_len hB1 hB2
  simp only at hB1 hBl
  refine V_aload_n eX9_word_0 rfl rfl ?_
  refine V_getf eX9_word_1 H_this rfl ?_
  refine V_iload_n eX9_word_4 rfl rfl ?_
  refine V_cvi eX9_word_5 (c_X7_hasWord HT hN (by omega)) H_this_text rfl rfl (Nat.le_of_ble_eq_true rfl) ⟨rfl, rfl⟩ ⟨Nat.zero_le _, Nat.zero_le _⟩ ?_
  rw [if_pos (by omega)]
  refine V_if_ne (tgt := 14) eX9_word_8 rfl (by omega) (fun c_8 => ?_) (fun c_8 => ?_)
  · refine V_iload_n eX9_word_14 rfl rfl ?_
    refine V_if_lt (tgt := 24) eX9_word_15 rfl (by omega) (fun c_15 => ?_) (fun c_15 => ?_)
    · exact absurd c_15 (by omega)
    · refine V_iload_n eX9_word_18 rfl rfl ?_
      refine V_bipush eX9_word_19 (by decide) ?_
      refine V_icmp_le (tgt := 27) eX9_word_21 rfl (by omega) (fun c_21 => ?_) (fun c_21 => ?_)
      · refine V_iload_n eX9_word_27 rfl rfl ?_
        refine V_tswIn (tgt := 95) (off := 67) eX9_word_28 (by omega) (by omega) rfl rfl ?_
        refine V_aload_n eX9_word_95 rfl rfl ?_
        refine V_iload_n eX9_word_96 rfl rfl ?_
        refine V_cvg eX9_word_97 (c_X9_grows HX HT HO.1 HN HL hc hv) H_this rfl rfl (Nat.le_of_ble_eq_true rfl) ⟨rfl, rfl⟩ ⟨Nat.zero_le _, Nat.zero_le _⟩ (fun h1 ⟨HL1, hfr⟩ => ?_)
        show eb_V _ _ 100 _ [.int (eb_I v)] _ _ _
        exact V_iret eX9_word_100 ⟨Nat.zero_le _, Nat.zero_le _⟩ rfl (rfl) (⟨rfl, rfl, HR'.re (fun x a b => hfr x (by omega)) (fun x a b => hfr x (by omega)) (HN.kept (fun x a b => hfr x (by omega))) HL1 (HS.kept (fun x a b => hfr x (by omega))), fun k hk => hfr k (by omega)⟩)
      · exact absurd (by omega) c_21
  · exact absurd c_8 (by omega)
theorem x9_word_l {w i : Nat} (HR : XR h T ty fa past seed i0 i1 sees book) (HO : SOK T ty fa past seed i0 i1 sees book) (hc : w < T.1.length) (hi : i < 12) : eb_T mX9_word [.ref 0, .int (eb_I (w : Int)), .int (eb_I ((i + 4 : Nat) : Int))] n h (eb_G (some (.int (eb_I (sp_at (T.1.getD w []) i)))) n (fun h' => XR h' T ty fa past seed i0 i1 sees book ∧ F67 h h')) := by
  refine eb_T.of (by decide +kernel) (Nat.le_of_ble_eq_true rfl) ?_
  show eb_V _ _ 0 [.ref 0, .int (eb_I (w : Int)), .int (eb_I ((i + 4 : Nat) : Int))] [] (n, 0, 0) h _
  have HR' := HR
  obtain ⟨HX, HT, HY, HP, HD, HB, HN, HL, HS, HI0, HI1⟩ := HR
  have H_this := HX.1
  have hN : T.1.length ≤ 40 := HO.1.1.1
  have hq := tx_lok HO.1
  obtain ⟨H_this_text, ftx, H_this_text_words, hftx⟩ := id HT
  obtain ⟨wc, lf, gty, H_this_typed, H_ty1, H_ty2, hlf⟩ := id HY
  obtain ⟨pnx, pf, H_this_past, pr⟩ := id HP
  obtain ⟨bkf, bkg, H_this_book, bkr⟩ := id HB
  obtain ⟨ro, pl, to, ow, lb, HLN, hpl, hto, how, hlb⟩ := id HN
  obtain ⟨H_this_now, H_np, H_this_now_total, H_this_now_owner, H_nlb, H_nro, H_nrt⟩ := id HLN
  obtain ⟨fresh, tb, bf, HSU, hsu⟩ := id HS
  have H_this_survey := HSU.1
  obtain ⟨hB1, hB2⟩ := lt_B_up hq
  have hBl := br_len hB1 hB2
  simp only at hB1 hBl
  have hl0 := HO.1.2 T.1[w] (List.getElem_mem hc)
  have hgd : T.1.getD w [] = T.1[w] := by simp [hc]
  rw [hgd]
  refine V_aload_n eX9_word_0 rfl rfl ?_
  refine V_getf eX9_word_1 H_this rfl ?_
  refine V_iload_n eX9_word_4 rfl rfl ?_
  refine V_cvi eX9_word_5 (c_X7_hasWord HT hN (by omega)) H_this_text rfl rfl (Nat.le_of_ble_eq_true rfl) ⟨rfl, rfl⟩ ⟨Nat.zero_le _, Nat.zero_le _⟩ ?_
  rw [if_pos (by omega)]
  refine V_if_ne (tgt := 14) eX9_word_8 rfl (by omega) (fun c_8 => ?_) (fun c_8 => ?_)
  · refine V_iload_n eX9_word_14 rfl rfl ?_
    refine V_if_lt (tgt := 24) eX9_word_15 rfl (by omega) (fun c_15 => ?_) (fun c_15 => ?_)
    · exact absurd c_15 (by omega)
    · refine V_iload_n eX9_word_18 rfl rfl ?_
      refine V_bipush eX9_word_19 (by decide) ?_
      refine V_icmp_le (tgt := 27) eX9_word_21 rfl (by omega) (fun c_21 => ?_) (fun c_21 => ?_)
      · refine V_iload_n eX9_word_27 rfl rfl ?_
        refine V_tswOut (tgt := 101) eX9_word_28 (by omega) (by omega) rfl ?_
        refine V_aload_n eX9_word_101 rfl rfl ?_
        refine V_getf eX9_word_102 H_this rfl ?_
        refine V_getf eX9_word_105 H_this_text rfl ?_
        refine V_iload_n eX9_word_108 rfl rfl ?_
        refine V_lald eX9_word_109 H_this_text_words (by omega) ?_
        rw [Int.toNat_natCast, hftx w hc]
        refine V_iload_n eX9_word_110 rfl rfl ?_
        refine V_iconst eX9_word_111 ?_
        refine V_isub eX9_word_112 ?_
        refine V_eqI (b := (i : Int)) (by omega) ?_
        refine V_csi eX9_word_113 (c_X5_letterAt hl0.1 hi) rfl rfl (Nat.le_of_ble_eq_true rfl) ⟨rfl, rfl⟩ ⟨Nat.zero_le _, Nat.zero_le _⟩ ?_
        exact V_iret eX9_word_116 ⟨Nat.zero_le _, Nat.zero_le _⟩ rfl (rfl) (⟨rfl, rfl, HR', F67.rf⟩)
      · exact absurd (by omega) c_21
  · exact absurd c_8 (by omega)
theorem x9_line_unk {k w : Int} (HR : XR h T ty fa past seed i0 i1 sees book) (HO : SOK T ty fa past seed i0 i1 sees book) (hk : -2147483648 ≤ k ∧ k ≤ 2147483647) (hc : ¬ (0 ≤ k ∧ k < ((lt_B (txq T)).length : Int))) : eb_T mX9_line [.ref 0, .int (eb_I k), .int (eb_I w)] n h (eb_G (some (.int (eb_I (-1000000001)))) n (fun h' => XR h' T ty fa past seed i0 i1 sees book ∧ F67 h h')) := by
  refine eb_T.of (by decide +kernel) (Nat.le_of_ble_eq_true rfl) ?_
  show eb_V _ _ 0 [.ref 0, .int (eb_I k), .int (eb_I w), eb_no, eb_no] [] (n, 0, 0) h _
  have HR' := HR
  obtain ⟨HX, HT, HY, HP, HD, HB, HN, HL, HS, HI0, HI1⟩ := HR
  have H_this := HX.1
  have hN : T.1.length ≤ 40 := HO.1.1.1
  have hq := tx_lok HO.1
  obtain ⟨H_this_text, ftx, H_this_text_words, hftx⟩ := id HT
  obtain ⟨wc, lf, gty, H_this_typed, H_ty1, H_ty2, hlf⟩ := id HY
  obtain ⟨pnx, pf, H_this_past, pr⟩ := id HP
  obtain ⟨bkf, bkg, H_this_book, bkr⟩ := id HB
  obtain ⟨ro, pl, to, ow, lb, HLN, hpl, hto, how, hlb⟩ := id HN
  obtain ⟨H_this_now, H_np, H_this_now_total, H_this_now_owner, H_nlb, H_nro, H_nrt⟩ := id HLN
  obtain ⟨fresh, tb, bf, HSU, hsu⟩ := id HS
  have H_this_survey := HSU.1
  obtain ⟨hB1, hB2⟩ := lt_B_up hq
  have hBl := br_len hB1 hB2
  simp only at hB1 hBl
  refine V_iload_n eX9_line_0 rfl rfl ?_
  refine V_if_lt (tgt := 15) eX9_line_1 rfl (by omega) (fun c_1 => ?_) (fun c_1 => ?_)
  · refine V_ldc (a := -1000000001) eX9_line_15 wd_511 (by decide) ?_
    exact V_iret eX9_line_17 ⟨Nat.zero_le _, Nat.zero_le _⟩ rfl (rfl) (⟨rfl, rfl, HR', F67.rf⟩)
  · refine V_iload_n eX9_line_4 rfl rfl ?_
    refine V_aload_n eX9_line_5 rfl rfl ?_
    refine V_getf eX9_line_6 H_this rfl ?_
    refine V_getf eX9_line_9 H_this_now rfl ?_
    refine V_icmp_lt (tgt := 18) eX9_line_12 rfl (by omega) (fun c_12 => ?_) (fun c_12 => ?_)
    · exact absurd ⟨by omega, c_12⟩ hc
    · refine V_ldc (a := -1000000001) eX9_line_15 wd_511 (by decide) ?_
      exact V_iret eX9_line_17 ⟨Nat.zero_le _, Nat.zero_le _⟩ rfl (rfl) (⟨rfl, rfl, HR', F67.rf⟩)
theorem x9_line_0 {k : Nat} (HR : XR h T ty fa past seed i0 i1 sees book) (HO : SOK T ty fa past seed i0 i1 sees book) (hc : k < (lt_B (txq T)).length) : eb_T mX9_line [.ref 0, .int (eb_I (k : Int)), .int (eb_I 0)] n h (eb_G (some (.int (eb_I (((lt_B (txq T)).getD k 0 : Nat))))) n (fun h' => XR h' T ty fa past seed i0 i1 sees book ∧ F67 h h')) := by
  refine eb_T.of (by decide +kernel) (Nat.le_of_ble_eq_true rfl) ?_
  show eb_V _ _ 0 [.ref 0, .int (eb_I (k : Int)), .int (eb_I 0), eb_no, eb_no] [] (n, 0, 0) h _
  have HR' := HR
  obtain ⟨HX, HT, HY, HP, HD, HB, HN, HL, HS, HI0, HI1⟩ := HR
  have H_this := HX.1
  have hN : T.1.length ≤ 40 := HO.1.1.1
  have hq := tx_lok HO.1
  obtain ⟨H_this_text, ftx, H_this_text_words, hftx⟩ := id HT
  obtain ⟨wc, lf, gty, H_this_typed, H_ty1, H_ty2, hlf⟩ := id HY
  obtain ⟨pnx, pf, H_this_past, pr⟩ := id HP
  obtain ⟨bkf, bkg, H_this_book, bkr⟩ := id HB
  obtain ⟨ro, pl, to, ow, lb, HLN, hpl, hto, how, hlb⟩ := id HN
  obtain ⟨H_this_now, H_np, H_this_now_total, H_this_now_owner, H_nlb, H_nro, H_nrt⟩ := id HLN
  obtain ⟨fresh, tb, bf, HSU, hsu⟩ := id HS
  have H_this_survey := HSU.1
  obtain ⟨hB1, hB2⟩ := lt_B_up hq
  have hBl := br_len hB1 hB2
  simp only at hB1 hBl
  have hBl2 : (lt_B (txq T)).length ≤ 40 := Nat.le_trans hBl hN
  obtain ⟨f1, f2, f3⟩ := B_at hB1 hB2 hc
  have Tb := c_X3_bO (n := n) HLN hBl2 hlb hc
  have Te := c_X3_eO (n := n) HLN hBl2 hN hlb hc
  refine V_iload_n eX9_line_0 rfl rfl ?_
  refine V_if_lt (tgt := 15) eX9_line_1 rfl (by omega) (fun c_1 => ?_) (fun c_1 => ?_)
  · exact absurd c_1 (by omega)
  · refine V_iload_n eX9_line_4 rfl rfl ?_
    refine V_aload_n eX9_line_5 rfl rfl ?_
    refine V_getf eX9_line_6 H_this rfl ?_
    refine V_getf eX9_line_9 H_this_now rfl ?_
    refine V_icmp_lt (tgt := 18) eX9_line_12 rfl (by omega) (fun c_12 => ?_) (fun c_12 => ?_)
    · refine V_aload_n eX9_line_18 rfl rfl ?_
      refine V_getf eX9_line_19 H_this rfl ?_
      refine V_iload_n eX9_line_22 rfl rfl ?_
      refine V_cvi eX9_line_23 (Tb) H_this_now rfl rfl (Nat.le_of_ble_eq_true rfl) ⟨rfl, rfl⟩ ⟨Nat.zero_le _, Nat.zero_le _⟩ ?_
      refine V_istore_n eX9_line_26 rfl (Nat.le_of_ble_eq_true rfl) rfl (eb_sS (eb_sS (eb_sS eb_s0))) ?_
      refine V_aload_n eX9_line_27 rfl rfl ?_
      refine V_getf eX9_line_28 H_this rfl ?_
      refine V_iload_n eX9_line_31 rfl rfl ?_
      refine V_cvi eX9_line_32 (Te) H_this_now rfl rfl (Nat.le_of_ble_eq_true rfl) ⟨rfl, rfl⟩ ⟨Nat.zero_le _, Nat.zero_le _⟩ ?_
      refine V_istore eX9_line_35 (Nat.le_of_ble_eq_true rfl) rfl (eb_sS (eb_sS (eb_sS (eb_sS eb_s0)))) ?_
      refine V_iload_n eX9_line_37 rfl rfl ?_
      refine V_tswIn (tgt := 68) (off := 30) eX9_line_38 (by omega) (by omega) rfl rfl ?_
      refine V_iload_n eX9_line_68 rfl rfl ?_
      exact V_iret eX9_line_69 ⟨Nat.zero_le _, Nat.zero_le _⟩ rfl (rfl) (⟨rfl, rfl, HR', F67.rf⟩)
    · exact absurd (Int.ofNat_lt.mpr hc) c_12
theorem x9_line_1 {k : Nat} (HR : XR h T ty fa past seed i0 i1 sees book) (HO : SOK T ty fa past seed i0 i1 sees book) (hc : k < (lt_B (txq T)).length) : eb_T mX9_line [.ref 0, .int (eb_I (k : Int)), .int (eb_I 1)] n h (eb_G (some (.int (eb_I ((rv_e (lt_B (txq T)) T.1.length k : Nat))))) n (fun h' => XR h' T ty fa past seed i0 i1 sees book ∧ F67 h h')) := by
  refine eb_T.of (by decide +kernel) (Nat.le_of_ble_eq_true rfl) ?_
  show eb_V _ _ 0 [.ref 0, .int (eb_I (k : Int)), .int (eb_I 1), eb_no, eb_no] [] (n, 0, 0) h _
  have HR' := HR
  obtain ⟨HX, HT, HY, HP, HD, HB, HN, HL, HS, HI0, HI1⟩ := HR
  have H_this := HX.1
  have hN : T.1.length ≤ 40 := HO.1.1.1
  have hq := tx_lok HO.1
  obtain ⟨H_this_text, ftx, H_this_text_words, hftx⟩ := id HT
  obtain ⟨wc, lf, gty, H_this_typed, H_ty1, H_ty2, hlf⟩ := id HY
  obtain ⟨pnx, pf, H_this_past, pr⟩ := id HP
  obtain ⟨bkf, bkg, H_this_book, bkr⟩ := id HB
  obtain ⟨ro, pl, to, ow, lb, HLN, hpl, hto, how, hlb⟩ := id HN
  obtain ⟨H_this_now, H_np, H_this_now_total, H_this_now_owner, H_nlb, H_nro, H_nrt⟩ := id HLN
  obtain ⟨fresh, tb, bf, HSU, hsu⟩ := id HS
  have H_this_survey := HSU.1
  obtain ⟨hB1, hB2⟩ := lt_B_up hq
  have hBl := br_len hB1 hB2
  simp only at hB1 hBl
  have hBl2 : (lt_B (txq T)).length ≤ 40 := Nat.le_trans hBl hN
  obtain ⟨f1, f2, f3⟩ := B_at hB1 hB2 hc
  have Tb := c_X3_bO (n := n) HLN hBl2 hlb hc
  have Te := c_X3_eO (n := n) HLN hBl2 hN hlb hc
  refine V_iload_n eX9_line_0 rfl rfl ?_
  refine V_if_lt (tgt := 15) eX9_line_1 rfl (by omega) (fun c_1 => ?_) (fun c_1 => ?_)
  · exact absurd c_1 (by omega)
  · refine V_iload_n eX9_line_4 rfl rfl ?_
    refine V_aload_n eX9_line_5 rfl rfl ?_
    refine V_getf eX9_line_6 H_this rfl ?_
    refine V_getf eX9_line_9 H_this_now rfl ?_
    refine V_icmp_lt (tgt := 18) eX9_line_12 rfl (by omega) (fun c_12 => ?_) (fun c_12 => ?_)
    · refine V_aload_n eX9_line_18 rfl rfl ?_
      refine V_getf eX9_line_19 H_this rfl ?_
      refine V_iload_n eX9_line_22 rfl rfl ?_
      refine V_cvi eX9_line_23 (Tb) H_this_now rfl rfl (Nat.le_of_ble_eq_true rfl) ⟨rfl, rfl⟩ ⟨Nat.zero_le _, Nat.zero_le _⟩ ?_
      refine V_istore_n eX9_line_26 rfl (Nat.le_of_ble_eq_true rfl) rfl (eb_sS (eb_sS (eb_sS eb_s0))) ?_
      refine V_aload_n eX9_line_27 rfl rfl ?_
      refine V_getf eX9_line_28 H_this rfl ?_
      refine V_iload_n eX9_line_31 rfl rfl ?_
      refine V_cvi eX9_line_32 (Te) H_this_now rfl rfl (Nat.le_of_ble_eq_true rfl) ⟨rfl, rfl⟩ ⟨Nat.zero_le _, Nat.zero_le _⟩ ?_
      refine V_istore eX9_line_35 (Nat.le_of_ble_eq_true rfl) rfl (eb_sS (eb_sS (eb_sS (eb_sS eb_s0)))) ?_
      refine V_iload_n eX9_line_37 rfl rfl ?_
      refine V_tswIn (tgt := 70) (off := 32) eX9_line_38 (by omega) (by omega) rfl rfl ?_
      refine V_iload eX9_line_70 rfl ?_
      exact V_iret eX9_line_72 ⟨Nat.zero_le _, Nat.zero_le _⟩ rfl (rfl) (⟨rfl, rfl, HR', F67.rf⟩)
    · exact absurd (Int.ofNat_lt.mpr hc) c_12
theorem x9_line_2 {k : Nat} (HR : XR h T ty fa past seed i0 i1 sees book) (HO : SOK T ty fa past seed i0 i1 sees book) (hc : k < (lt_B (txq T)).length) : eb_T mX9_line [.ref 0, .int (eb_I (k : Int)), .int (eb_I 2)] n h (eb_G (some (.int (eb_I (lt_pl (tx_wf T.1) (rv_e (lt_B (txq T)) T.1.length k) - lt_pl (tx_wf T.1) ((lt_B (txq T)).getD k 0) - 1)))) n (fun h' => XR h' T ty fa past seed i0 i1 sees book ∧ F67 h h')) := by
  refine eb_T.of (by decide +kernel) (Nat.le_of_ble_eq_true rfl) ?_
  show eb_V _ _ 0 [.ref 0, .int (eb_I (k : Int)), .int (eb_I 2), eb_no, eb_no] [] (n, 0, 0) h _
  have HR' := HR
  obtain ⟨HX, HT, HY, HP, HD, HB, HN, HL, HS, HI0, HI1⟩ := HR
  have H_this := HX.1
  have hN : T.1.length ≤ 40 := HO.1.1.1
  have hq := tx_lok HO.1
  obtain ⟨H_this_text, ftx, H_this_text_words, hftx⟩ := id HT
  obtain ⟨wc, lf, gty, H_this_typed, H_ty1, H_ty2, hlf⟩ := id HY
  obtain ⟨pnx, pf, H_this_past, pr⟩ := id HP
  obtain ⟨bkf, bkg, H_this_book, bkr⟩ := id HB
  obtain ⟨ro, pl, to, ow, lb, HLN, hpl, hto, how, hlb⟩ := id HN
  obtain ⟨H_this_now, H_np, H_this_now_total, H_this_now_owner, H_nlb, H_nro, H_nrt⟩ := id HLN
  obtain ⟨fresh, tb, bf, HSU, hsu⟩ := id HS
  have H_this_survey := HSU.1
  obtain ⟨hB1, hB2⟩ := lt_B_up hq
  have hBl := br_len hB1 hB2
  simp only at hB1 hBl
  have hBl2 : (lt_B (txq T)).length ≤ 40 := Nat.le_trans hBl hN
  obtain ⟨f1, f2, f3⟩ := B_at hB1 hB2 hc
  have Tb := c_X3_bO (n := n) HLN hBl2 hlb hc
  have Te := c_X3_eO (n := n) HLN hBl2 hN hlb hc
  refine V_iload_n eX9_line_0 rfl rfl ?_
  refine V_if_lt (tgt := 15) eX9_line_1 rfl (by omega) (fun c_1 => ?_) (fun c_1 => ?_)
  · exact absurd c_1 (by omega)
  · refine V_iload_n eX9_line_4 rfl rfl ?_
    refine V_aload_n eX9_line_5 rfl rfl ?_
    refine V_getf eX9_line_6 H_this rfl ?_
    refine V_getf eX9_line_9 H_this_now rfl ?_
    refine V_icmp_lt (tgt := 18) eX9_line_12 rfl (by omega) (fun c_12 => ?_) (fun c_12 => ?_)
    · refine V_aload_n eX9_line_18 rfl rfl ?_
      refine V_getf eX9_line_19 H_this rfl ?_
      refine V_iload_n eX9_line_22 rfl rfl ?_
      refine V_cvi eX9_line_23 (Tb) H_this_now rfl rfl (Nat.le_of_ble_eq_true rfl) ⟨rfl, rfl⟩ ⟨Nat.zero_le _, Nat.zero_le _⟩ ?_
      refine V_istore_n eX9_line_26 rfl (Nat.le_of_ble_eq_true rfl) rfl (eb_sS (eb_sS (eb_sS eb_s0))) ?_
      refine V_aload_n eX9_line_27 rfl rfl ?_
      refine V_getf eX9_line_28 H_this rfl ?_
      refine V_iload_n eX9_line_31 rfl rfl ?_
      refine V_cvi eX9_line_32 (Te) H_this_now rfl rfl (Nat.le_of_ble_eq_true rfl) ⟨rfl, rfl⟩ ⟨Nat.zero_le _, Nat.zero_le _⟩ ?_
      refine V_istore eX9_line_35 (Nat.le_of_ble_eq_true rfl) rfl (eb_sS (eb_sS (eb_sS (eb_sS eb_s0)))) ?_
      refine V_iload_n eX9_line_37 rfl rfl ?_
      refine V_tswIn (tgt := 73) (off := 35) eX9_line_38 (by omega) (by omega) rfl rfl ?_
      refine V_aload_n eX9_line_73 rfl rfl ?_
      refine V_getf eX9_line_74 H_this rfl ?_
      refine V_iload_n eX9_line_77 rfl rfl ?_
      refine V_iload eX9_line_78 rfl ?_
      refine V_cvi eX9_line_80 (c_X3_widthOf HLN (by omega) (by omega)) H_this_now rfl rfl (Nat.le_of_ble_eq_true rfl) ⟨rfl, rfl⟩ ⟨Nat.zero_le _, Nat.zero_le _⟩ ?_
      rw [hpl _ f3, hpl _ (by omega)]
      exact V_iret eX9_line_83 ⟨Nat.zero_le _, Nat.zero_le _⟩ rfl (rfl) (⟨rfl, rfl, HR', F67.rf⟩)
    · exact absurd (Int.ofNat_lt.mpr hc) c_12
theorem x9_line_3 {k : Nat} (HR : XR h T ty fa past seed i0 i1 sees book) (HO : SOK T ty fa past seed i0 i1 sees book) (hc : k < (lt_B (txq T)).length) : eb_T mX9_line [.ref 0, .int (eb_I (k : Int)), .int (eb_I 3)] n h (eb_G (some (.int (eb_I (lt_c (txq T) ((lt_B (txq T)).getD k 0) (rv_e (lt_B (txq T)) T.1.length k))))) n (fun h' => XR h' T ty fa past seed i0 i1 sees book ∧ F67 h h')) := by
  refine eb_T.of (by decide +kernel) (Nat.le_of_ble_eq_true rfl) ?_
  show eb_V _ _ 0 [.ref 0, .int (eb_I (k : Int)), .int (eb_I 3), eb_no, eb_no] [] (n, 0, 0) h _
  have HR' := HR
  obtain ⟨HX, HT, HY, HP, HD, HB, HN, HL, HS, HI0, HI1⟩ := HR
  have H_this := HX.1
  have hN : T.1.length ≤ 40 := HO.1.1.1
  have hq := tx_lok HO.1
  obtain ⟨H_this_text, ftx, H_this_text_words, hftx⟩ := id HT
  obtain ⟨wc, lf, gty, H_this_typed, H_ty1, H_ty2, hlf⟩ := id HY
  obtain ⟨pnx, pf, H_this_past, pr⟩ := id HP
  obtain ⟨bkf, bkg, H_this_book, bkr⟩ := id HB
  obtain ⟨ro, pl, to, ow, lb, HLN, hpl, hto, how, hlb⟩ := id HN
  obtain ⟨H_this_now, H_np, H_this_now_total, H_this_now_owner, H_nlb, H_nro, H_nrt⟩ := id HLN
  obtain ⟨fresh, tb, bf, HSU, hsu⟩ := id HS
  have H_this_survey := HSU.1
  obtain ⟨hB1, hB2⟩ := lt_B_up hq
  have hBl := br_len hB1 hB2
  simp only at hB1 hBl
  have hBl2 : (lt_B (txq T)).length ≤ 40 := Nat.le_trans hBl hN
  obtain ⟨f1, f2, f3⟩ := B_at hB1 hB2 hc
  have Tb := c_X3_bO (n := n) HLN hBl2 hlb hc
  have Te := c_X3_eO (n := n) HLN hBl2 hN hlb hc
  refine V_iload_n eX9_line_0 rfl rfl ?_
  refine V_if_lt (tgt := 15) eX9_line_1 rfl (by omega) (fun c_1 => ?_) (fun c_1 => ?_)
  · exact absurd c_1 (by omega)
  · refine V_iload_n eX9_line_4 rfl rfl ?_
    refine V_aload_n eX9_line_5 rfl rfl ?_
    refine V_getf eX9_line_6 H_this rfl ?_
    refine V_getf eX9_line_9 H_this_now rfl ?_
    refine V_icmp_lt (tgt := 18) eX9_line_12 rfl (by omega) (fun c_12 => ?_) (fun c_12 => ?_)
    · refine V_aload_n eX9_line_18 rfl rfl ?_
      refine V_getf eX9_line_19 H_this rfl ?_
      refine V_iload_n eX9_line_22 rfl rfl ?_
      refine V_cvi eX9_line_23 (Tb) H_this_now rfl rfl (Nat.le_of_ble_eq_true rfl) ⟨rfl, rfl⟩ ⟨Nat.zero_le _, Nat.zero_le _⟩ ?_
      refine V_istore_n eX9_line_26 rfl (Nat.le_of_ble_eq_true rfl) rfl (eb_sS (eb_sS (eb_sS eb_s0))) ?_
      refine V_aload_n eX9_line_27 rfl rfl ?_
      refine V_getf eX9_line_28 H_this rfl ?_
      refine V_iload_n eX9_line_31 rfl rfl ?_
      refine V_cvi eX9_line_32 (Te) H_this_now rfl rfl (Nat.le_of_ble_eq_true rfl) ⟨rfl, rfl⟩ ⟨Nat.zero_le _, Nat.zero_le _⟩ ?_
      refine V_istore eX9_line_35 (Nat.le_of_ble_eq_true rfl) rfl (eb_sS (eb_sS (eb_sS (eb_sS eb_s0)))) ?_
      refine V_iload_n eX9_line_37 rfl rfl ?_
      refine V_tswIn (tgt := 84) (off := 46) eX9_line_38 (by omega) (by omega) rfl rfl ?_
      refine V_aload_n eX9_line_84 rfl rfl ?_
      refine V_getf eX9_line_85 H_this rfl ?_
      refine V_iload_n eX9_line_88 rfl rfl ?_
      refine V_iload eX9_line_89 rfl ?_
      refine V_cvi eX9_line_91 (c_X3_pr HLN hq hpl f2 f3) H_this_now rfl rfl (Nat.le_of_ble_eq_true rfl) ⟨rfl, rfl⟩ ⟨Nat.zero_le _, Nat.zero_le _⟩ ?_
      exact V_iret eX9_line_94 ⟨Nat.zero_le _, Nat.zero_le _⟩ rfl (rfl) (⟨rfl, rfl, HR', F67.rf⟩)
    · exact absurd (Int.ofNat_lt.mpr hc) c_12
theorem x9_line_out {k : Nat} {w : Int} (HR : XR h T ty fa past seed i0 i1 sees book) (HO : SOK T ty fa past seed i0 i1 sees book) (hc : k < (lt_B (txq T)).length) (hw : -2147483648 ≤ w ∧ w ≤ 2147483647) (hw2 : ¬ (0 ≤ w ∧ w ≤ 3)) : eb_T mX9_line [.ref 0, .int (eb_I (k : Int)), .int (eb_I w)] n h (eb_G (some (.int (eb_I (-1000000002)))) n (fun h' => XR h' T ty fa past seed i0 i1 sees book ∧ F67 h h')) := by
  refine eb_T.of (by decide +kernel) (Nat.le_of_ble_eq_true rfl) ?_
  show eb_V _ _ 0 [.ref 0, .int (eb_I (k : Int)), .int (eb_I w), eb_no, eb_no] [] (n, 0, 0) h _
  have HR' := HR
  obtain ⟨HX, HT, HY, HP, HD, HB, HN, HL, HS, HI0, HI1⟩ := HR
  have H_this := HX.1
  have hN : T.1.length ≤ 40 := HO.1.1.1
  have hq := tx_lok HO.1
  obtain ⟨H_this_text, ftx, H_this_text_words, hftx⟩ := id HT
  obtain ⟨wc, lf, gty, H_this_typed, H_ty1, H_ty2, hlf⟩ := id HY
  obtain ⟨pnx, pf, H_this_past, pr⟩ := id HP
  obtain ⟨bkf, bkg, H_this_book, bkr⟩ := id HB
  obtain ⟨ro, pl, to, ow, lb, HLN, hpl, hto, how, hlb⟩ := id HN
  obtain ⟨H_this_now, H_np, H_this_now_total, H_this_now_owner, H_nlb, H_nro, H_nrt⟩ := id HLN
  obtain ⟨fresh, tb, bf, HSU, hsu⟩ := id HS
  have H_this_survey := HSU.1
  obtain ⟨hB1, hB2⟩ := lt_B_up hq
  have hBl := br_len hB1 hB2
  simp only at hB1 hBl
  have hBl2 : (lt_B (txq T)).length ≤ 40 := Nat.le_trans hBl hN
  obtain ⟨f1, f2, f3⟩ := B_at hB1 hB2 hc
  have Tb := c_X3_bO (n := n) HLN hBl2 hlb hc
  have Te := c_X3_eO (n := n) HLN hBl2 hN hlb hc
  refine V_iload_n eX9_line_0 rfl rfl ?_
  refine V_if_lt (tgt := 15) eX9_line_1 rfl (by omega) (fun c_1 => ?_) (fun c_1 => ?_)
  · exact absurd c_1 (by omega)
  · refine V_iload_n eX9_line_4 rfl rfl ?_
    refine V_aload_n eX9_line_5 rfl rfl ?_
    refine V_getf eX9_line_6 H_this rfl ?_
    refine V_getf eX9_line_9 H_this_now rfl ?_
    refine V_icmp_lt (tgt := 18) eX9_line_12 rfl (by omega) (fun c_12 => ?_) (fun c_12 => ?_)
    · refine V_aload_n eX9_line_18 rfl rfl ?_
      refine V_getf eX9_line_19 H_this rfl ?_
      refine V_iload_n eX9_line_22 rfl rfl ?_
      refine V_cvi eX9_line_23 (Tb) H_this_now rfl rfl (Nat.le_of_ble_eq_true rfl) ⟨rfl, rfl⟩ ⟨Nat.zero_le _, Nat.zero_le _⟩ ?_
      refine V_istore_n eX9_line_26 rfl (Nat.le_of_ble_eq_true rfl) rfl (eb_sS (eb_sS (eb_sS eb_s0))) ?_
      refine V_aload_n eX9_line_27 rfl rfl ?_
      refine V_getf eX9_line_28 H_this rfl ?_
      refine V_iload_n eX9_line_31 rfl rfl ?_
      refine V_cvi eX9_line_32 (Te) H_this_now rfl rfl (Nat.le_of_ble_eq_true rfl) ⟨rfl, rfl⟩ ⟨Nat.zero_le _, Nat.zero_le _⟩ ?_
      refine V_istore eX9_line_35 (Nat.le_of_ble_eq_true rfl) rfl (eb_sS (eb_sS (eb_sS (eb_sS eb_s0)))) ?_
      refine V_iload_n eX9_line_37 rfl rfl ?_
      refine V_tswOut (tgt := 95) eX9_line_38 (hw) (by omega) rfl ?_
      refine V_ldc (a := -1000000002) eX9_line_95 wd_376 (by decide) ?_
      exact V_iret eX9_line_97 ⟨Nat.zero_le _, Nat.zero_le _⟩ rfl (rfl) (⟨rfl, rfl, HR', F67.rf⟩)
    · exact absurd (Int.ofNat_lt.mpr hc) c_12
end X9E
