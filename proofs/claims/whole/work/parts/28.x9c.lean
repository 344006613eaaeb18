section X9C
variable {n : Nat} {h : eb_H} {T : TX} {ty : List Nat} {fa : Int} {past : List TX} {seed : Int} {i0 i1 : Option (TX × Int)} {sees : List (Nat × Bool)} {book : List (Int × Int)}
theorem x9_change_unk {w : Int} (HR : XR h T ty fa past seed i0 i1 sees book) (HO : SOK T ty fa past seed i0 i1 sees book) (hw : -2147483648 ≤ w ∧ w ≤ 2147483647) (hc : ¬ (0 ≤ w ∧ w < (T.1.length : Int))) : eb_T mX9_change [.ref 0, .int (eb_I w)] n h (eb_G (some (.int (eb_I (-1000000001)))) n (fun h' => XR h' T ty fa past seed i0 i1 sees book ∧ F67 h h')) := by
  refine eb_T.of (by decide +kernel) (Nat.le_of_ble_eq_true rfl) ?_
  show eb_V _ _ 0 [.ref 0, .int (eb_I w), eb_no] [] (n, 0, 0) h _
  have HR' := HR
  obtain ⟨HX, HT, HY, HP, HD, HB, HN, HL, HS, HI0, HI1⟩ := HR
  have H_this := HX.1
  have H_this_text := HT.1
  have hN : T.1.length ≤ 40 := HO.1.1.1
  refine V_aload_n eX9_change_0 rfl rfl ?_
  refine V_getf eX9_change_1 H_this rfl ?_
  refine V_iload_n eX9_change_4 rfl rfl ?_
  refine V_cvi eX9_change_5 (c_X7_hasWord HT hN hw) H_this_text rfl rfl (Nat.le_of_ble_eq_true rfl) ⟨rfl, rfl⟩ ⟨Nat.zero_le _, Nat.zero_le _⟩ ?_
  rw [if_neg hc]
  refine V_if_ne (tgt := 14) eX9_change_8 rfl (by omega) (fun c_8 => ?_) (fun c_8 => ?_)
  · exact absurd rfl c_8
  · refine V_ldc (a := -1000000001) eX9_change_11 wd_511 (by decide) ?_
    exact V_iret eX9_change_13 ⟨Nat.zero_le _, Nat.zero_le _⟩ rfl (rfl) (⟨rfl, rfl, HR', F67.rf⟩)
theorem x9_take_unk {w : Int} (HR : XR h T ty fa past seed i0 i1 sees book) (HO : SOK T ty fa past seed i0 i1 sees book) (hw : -2147483648 ≤ w ∧ w ≤ 2147483647) (hc : ¬ (0 ≤ w ∧ w < (T.1.length : Int))) : eb_T mX9_take [.ref 0, .int (eb_I w)] n h (eb_G (some (.int (eb_I (-1000000001)))) n (fun h' => XR h' T ty fa past seed i0 i1 sees book ∧ F67 h h')) := by
  refine eb_T.of (by decide +kernel) (Nat.le_of_ble_eq_true rfl) ?_
  show eb_V _ _ 0 [.ref 0, .int (eb_I w), eb_no] [] (n, 0, 0) h _
  have HR' := HR
  obtain ⟨HX, HT, HY, HP, HD, HB, HN, HL, HS, HI0, HI1⟩ := HR
  have H_this := HX.1
  have H_this_text := HT.1
  have hN : T.1.length ≤ 40 := HO.1.1.1
  refine V_aload_n eX9_take_0 rfl rfl ?_
  refine V_getf eX9_take_1 H_this rfl ?_
  refine V_iload_n eX9_take_4 rfl rfl ?_
  refine V_cvi eX9_take_5 (c_X7_hasWord HT hN hw) H_this_text rfl rfl (Nat.le_of_ble_eq_true rfl) ⟨rfl, rfl⟩ ⟨Nat.zero_le _, Nat.zero_le _⟩ ?_
  rw [if_neg hc]
  refine V_if_ne (tgt := 14) eX9_take_8 rfl (by omega) (fun c_8 => ?_) (fun c_8 => ?_)
  · exact absurd rfl c_8
  · refine V_ldc (a := -1000000001) eX9_take_11 wd_511 (by decide) ?_
    exact V_iret eX9_take_13 ⟨Nat.zero_le _, Nat.zero_le _⟩ rfl (rfl) (⟨rfl, rfl, HR', F67.rf⟩)
theorem x9_insert_unk {w : Int} (HR : XR h T ty fa past seed i0 i1 sees book) (HO : SOK T ty fa past seed i0 i1 sees book) (hw : -2147483648 ≤ w ∧ w ≤ 2147483647) (hc : ¬ (0 ≤ w ∧ w ≤ (T.1.length : Int))) : eb_T mX9_insert [.ref 0, .int (eb_I w)] n h (eb_G (some (.int (eb_I (-1000000001)))) n (fun h' => XR h' T ty fa past seed i0 i1 sees book ∧ F67 h h')) := by
  refine eb_T.of (by decide +kernel) (Nat.le_of_ble_eq_true rfl) ?_
  show eb_V _ _ 0 [.ref 0, .int (eb_I w), eb_no] [] (n, 0, 0) h _
  have HR' := HR
  obtain ⟨HX, HT, HY, HP, HD, HB, HN, HL, HS, HI0, HI1⟩ := HR
  have H_this := HX.1
  have H_this_text := HT.1
  have hN : T.1.length ≤ 40 := HO.1.1.1
  refine V_aload_n eX9_insert_0 rfl rfl ?_
  refine V_getf eX9_insert_1 H_this rfl ?_
  refine V_iload_n eX9_insert_4 rfl rfl ?_
  refine V_cvi eX9_insert_5 (c_X7_hasEnd HT hN hw) H_this_text rfl rfl (Nat.le_of_ble_eq_true rfl) ⟨rfl, rfl⟩ ⟨Nat.zero_le _, Nat.zero_le _⟩ ?_
  rw [if_neg hc]
  refine V_if_ne (tgt := 14) eX9_insert_8 rfl (by omega) (fun c_8 => ?_) (fun c_8 => ?_)
  · exact absurd rfl c_8
  · refine V_ldc (a := -1000000001) eX9_insert_11 wd_511 (by decide) ?_
    exact V_iret eX9_insert_13 ⟨Nat.zero_le _, Nat.zero_le _⟩ rfl (rfl) (⟨rfl, rfl, HR', F67.rf⟩)
theorem x9_change_bad {w : Int} (HR : XR h T ty fa past seed i0 i1 sees book) (HO : SOK T ty fa past seed i0 i1 sees book) (hw : -2147483648 ≤ w ∧ w ≤ 2147483647) (hc : 0 ≤ w ∧ w < (T.1.length : Int)) (hb : rd1 (rd ty 0 [] 0) ≠ 0) : eb_T mX9_change [.ref 0, .int (eb_I w)] n h (eb_G (some (.int (eb_I (rd1 (rd ty 0 [] 0))))) n (fun h' => XR h' T [] (rd ty 0 [] 0).2.1 past seed i0 i1 sees book ∧ F67 h h')) := by
  refine eb_T.of (by decide +kernel) (Nat.le_of_ble_eq_true rfl) ?_
  show eb_V _ _ 0 [.ref 0, .int (eb_I w), eb_no] [] (n, 0, 0) h _
  obtain ⟨HX, HT, HY, HP, HD, HB, HN, HL, HS, HI0, HI1⟩ := HR
  have H_this := HX.1
  have H_this_text := HT.1
  have hN : T.1.length ≤ 40 := HO.1.1.1
  have Tr := c_X9_readOneWord (n := n) HX HY HO.2.1
  have hok := rd_ok ty 0 [] 0 rd_inv_0
  generalize rd ty 0 [] 0 = R at Tr hok hb ⊢
  have hr1 : -1000000003 ≤ rd1 R ∧ rd1 R ≤ 0 := by
    have := hok.2.1
    unfold rd1
    split
    · omega
    · split <;> omega
  refine V_aload_n eX9_change_0 rfl rfl ?_
  refine V_getf eX9_change_1 H_this rfl ?_
  refine V_iload_n eX9_change_4 rfl rfl ?_
  refine V_cvi eX9_change_5 (c_X7_hasWord HT hN hw) H_this_text rfl rfl (Nat.le_of_ble_eq_true rfl) ⟨rfl, rfl⟩ ⟨Nat.zero_le _, Nat.zero_le _⟩ ?_
  rw [if_pos hc]
  refine V_if_ne (tgt := 14) eX9_change_8 rfl (by omega) (fun c_8 => ?_) (fun c_8 => ?_)
  · refine V_aload_n eX9_change_14 rfl rfl ?_
    refine V_cvg eX9_change_15 (Tr) H_this rfl rfl (Nat.le_of_ble_eq_true rfl) ⟨rfl, rfl⟩ ⟨Nat.zero_le _, Nat.zero_le _⟩ (fun h1 ⟨HR1, hfr⟩ => ?_)
    show eb_V _ _ 18 _ [.int (eb_I (rd1 R))] _ _ _
    refine V_istore_n eX9_change_18 rfl (Nat.le_of_ble_eq_true rfl) rfl (eb_sS (eb_sS eb_s0)) ?_
    refine V_iload_n eX9_change_19 rfl rfl ?_
    refine V_if_eq (tgt := 25) eX9_change_20 rfl (by omega) (fun c_20 => ?_) (fun c_20 => ?_)
    · exact absurd c_20 hb
    · refine V_iload_n eX9_change_23 rfl rfl ?_
      exact V_iret eX9_change_24 ⟨Nat.zero_le _, Nat.zero_le _⟩ rfl (rfl) (⟨rfl, rfl, ⟨HX.kept (hfr _ (by omega)) (hfr _ (by omega)), HT.kept (fun x a b => hfr x (by omega)), HR1.at, HP.kept (fun x a b => hfr x (by omega)), (hfr _ (by omega)).trans HD, HB.kept (fun x a b => hfr x (by omega)), HN.kept (fun x a b => hfr x (by omega)), HL.kept (hfr _ (by omega)) (fun x a b => hfr x (by omega)), HS.kept (fun x a b => hfr x (by omega)), HI0.kept (fun x a b => hfr x (by omega)), HI1.kept (fun x a b => hfr x (by omega))⟩, fun k hk => hfr k (by omega)⟩)
  · exact absurd c_8 (by omega)
theorem x9_insert_bad {w : Int} (HR : XR h T ty fa past seed i0 i1 sees book) (HO : SOK T ty fa past seed i0 i1 sees book) (hw : -2147483648 ≤ w ∧ w ≤ 2147483647) (hc : 0 ≤ w ∧ w ≤ (T.1.length : Int)) (hb : rd1 (rd ty 0 [] 0) ≠ 0) : eb_T mX9_insert [.ref 0, .int (eb_I w)] n h (eb_G (some (.int (eb_I (rd1 (rd ty 0 [] 0))))) n (fun h' => XR h' T [] (rd ty 0 [] 0).2.1 past seed i0 i1 sees book ∧ F67 h h')) := by
  refine eb_T.of (by decide +kernel) (Nat.le_of_ble_eq_true rfl) ?_
  show eb_V _ _ 0 [.ref 0, .int (eb_I w), eb_no] [] (n, 0, 0) h _
  obtain ⟨HX, HT, HY, HP, HD, HB, HN, HL, HS, HI0, HI1⟩ := HR
  have H_this := HX.1
  have H_this_text := HT.1
  have hN : T.1.length ≤ 40 := HO.1.1.1
  have Tr := c_X9_readOneWord (n := n) HX HY HO.2.1
  have hok := rd_ok ty 0 [] 0 rd_inv_0
  generalize rd ty 0 [] 0 = R at Tr hok hb ⊢
  have hr1 : -1000000003 ≤ rd1 R ∧ rd1 R ≤ 0 := by
    have := hok.2.1
    unfold rd1
    split
    · omega
    · split <;> omega
  refine V_aload_n eX9_insert_0 rfl rfl ?_
  refine V_getf eX9_insert_1 H_this rfl ?_
  refine V_iload_n eX9_insert_4 rfl rfl ?_
  refine V_cvi eX9_insert_5 (c_X7_hasEnd HT hN hw) H_this_text rfl rfl (Nat.le_of_ble_eq_true rfl) ⟨rfl, rfl⟩ ⟨Nat.zero_le _, Nat.zero_le _⟩ ?_
  rw [if_pos hc]
  refine V_if_ne (tgt := 14) eX9_insert_8 rfl (by omega) (fun c_8 => ?_) (fun c_8 => ?_)
  · refine V_aload_n eX9_insert_14 rfl rfl ?_
    refine V_cvg eX9_insert_15 (Tr) H_this rfl rfl (Nat.le_of_ble_eq_true rfl) ⟨rfl, rfl⟩ ⟨Nat.zero_le _, Nat.zero_le _⟩ (fun h1 ⟨HR1, hfr⟩ => ?_)
    show eb_V _ _ 18 _ [.int (eb_I (rd1 R))] _ _ _
    refine V_istore_n eX9_insert_18 rfl (Nat.le_of_ble_eq_true rfl) rfl (eb_sS (eb_sS eb_s0)) ?_
    refine V_iload_n eX9_insert_19 rfl rfl ?_
    refine V_if_eq (tgt := 25) eX9_insert_20 rfl (by omega) (fun c_20 => ?_) (fun c_20 => ?_)
    · exact absurd c_20 hb
    · refine V_iload_n eX9_insert_23 rfl rfl ?_
      exact V_iret eX9_insert_24 ⟨Nat.zero_le _, Nat.zero_le _⟩ rfl (rfl) (⟨rfl, rfl, ⟨HX.kept (hfr _ (by omega)) (hfr _ (by omega)), HT.kept (fun x a b => hfr x (by omega)), HR1.at, HP.kept (fun x a b => hfr x (by omega)), (hfr _ (by omega)).trans HD, HB.kept (fun x a b => hfr x (by omega)), HN.kept (fun x a b => hfr x (by omega)), HL.kept (hfr _ (by omega)) (fun x a b => hfr x (by omega)), HS.kept (fun x a b => hfr x (by omega)), HI0.kept (fun x a b => hfr x (by omega)), HI1.kept (fun x a b => hfr x (by omega))⟩, fun k hk => hfr k (by omega)⟩)
  · exact absurd c_8 (by omega)
theorem rd1_0 {R : Nat × Int × List (List Nat)} (h : rd1 R = 0) (h3 : R.1 ≤ 3) : R.1 = 0 ∧ R.2.2.length = 1 := by
  unfold rd1 at h
  by_cases c : R.1 ≠ 0
  · rw [if_pos c] at h; omega
  · rw [if_neg c] at h
    by_cases c1 : R.2.2.length = 1
    · exact ⟨by omega, c1⟩
    · rw [if_neg c1] at h; omega
theorem x9_change_ok {w : Nat} (HR : XR h T ty fa past seed i0 i1 sees book) (HO : SOK T ty fa past seed i0 i1 sees book) (hc : w < T.1.length) (hb : rd1 (rd ty 0 [] 0) = 0) : eb_T mX9_change [.ref 0, .int (eb_I (w : Int))] n h (eb_G (some (.int (eb_I (sp_ww ((rd ty 0 [] 0).2.2.getD 0 []))))) n (fun h' => XR h' (T.1.set w ((rd ty 0 [] 0).2.2.getD 0 []), T.2) [] (rd ty 0 [] 0).2.1 ((T :: past).take 16) seed i0 i1 sees book ∧ F67 h h')) := by
  refine eb_T.of (by decide +kernel) (Nat.le_of_ble_eq_true rfl) ?_
  show eb_V _ _ 0 [.ref 0, .int (eb_I (w : Int)), eb_no] [] (n, 0, 0) h _
  obtain ⟨HX, HT, HY, HP, HD, HB, HN, HL, HS, HI0, HI1⟩ := HR
  have H_this := HX.1
  have H_this_text := HT.1
  have hN : T.1.length ≤ 40 := HO.1.1.1
  have Tr := c_X9_readOneWord (n := n) HX HY HO.2.1
  have hok := rd_ok ty 0 [] 0 rd_inv_0
  generalize rd ty 0 [] 0 = R at Tr hok hb ⊢
  rw [hb] at Tr
  obtain ⟨r0, r1⟩ := rd1_0 hb hok.2.1
  have hm0 : R.2.2.getD 0 [] ∈ R.2.2 := by
    rw [show R.2.2.getD 0 [] = R.2.2[0]'(by omega) by simp [show 0 < R.2.2.length by omega]]
    exact List.getElem_mem _
  have hl0 := hok.1.2.2.1 _ hm0
  have hTX : TX_ok (T.1.set w (R.2.2.getD 0 []), T.2) := by
    refine ⟨⟨by simp; omega, HO.1.1.2⟩, fun l hl => ?_⟩
    rcases List.mem_or_eq_of_mem_set hl with q | q
    · exact HO.1.2 l q
    · rw [q]
      exact hl0
  generalize hl : R.2.2.getD 0 [] = l at hl0 hTX hm0 ⊢
  refine V_aload_n eX9_change_0 rfl rfl ?_
  refine V_getf eX9_change_1 H_this rfl ?_
  refine V_iload_n eX9_change_4 rfl rfl ?_
  refine V_cvi eX9_change_5 (c_X7_hasWord HT hN (by omega)) H_this_text rfl rfl (Nat.le_of_ble_eq_true rfl) ⟨rfl, rfl⟩ ⟨Nat.zero_le _, Nat.zero_le _⟩ ?_
  rw [if_pos (by omega)]
  refine V_if_ne (tgt := 14) eX9_change_8 rfl (by omega) (fun c_8 => ?_) (fun c_8 => ?_)
  · refine V_aload_n eX9_change_14 rfl rfl ?_
    refine V_cvg eX9_change_15 (Tr) H_this rfl rfl (Nat.le_of_ble_eq_true rfl) ⟨rfl, rfl⟩ ⟨Nat.zero_le _, Nat.zero_le _⟩ (fun h1 ⟨HR1, hfr⟩ => ?_)
    show eb_V _ _ 18 _ [.int (eb_I 0)] _ _ _
    have H_this : h1 0 = _ := (hfr 0 (by omega)).trans H_this
    have HT1 : tx h1 1 T := HT.kept (fun x a b => hfr x (by omega))
    have HP1 : pa_at h1 6 past := HP.kept (fun x a b => hfr x (by omega))
    obtain ⟨pnx, pf, H_this_past, pr⟩ := id HP1
    have H_this_text := HT1.1
    refine V_istore_n eX9_change_18 rfl (Nat.le_of_ble_eq_true rfl) rfl (eb_sS (eb_sS eb_s0)) ?_
    refine V_iload_n eX9_change_19 rfl rfl ?_
    refine V_if_eq (tgt := 25) eX9_change_20 rfl (by omega) (fun c_20 => ?_) (fun c_20 => ?_)
    · refine V_aload_n eX9_change_25 rfl rfl ?_
      refine V_getf eX9_change_26 H_this rfl ?_
      refine V_aload_n eX9_change_29 rfl rfl ?_
      refine V_getf eX9_change_30 H_this rfl ?_
      refine V_cvg eX9_change_33 (c_X4_remember HP1 HT1 HO.1 (by omega)) H_this_past rfl rfl (Nat.le_of_ble_eq_true rfl) ⟨rfl, rfl⟩ ⟨Nat.zero_le _, Nat.zero_le _⟩ (fun h2 ⟨HP2, hfr2⟩ => ?_)
      show eb_V _ _ 36 _ [] _ _ _
      have kp2 : ∀ k, (k < 3 ∨ 39 < k) → h2 k = h k := fun k hk => (hfr2 k (by omega)).trans (hfr k (by omega))
      have H_this : h2 0 = _ := (hfr2 0 (by omega)).trans H_this
      have HR2 : tyR h2 R := HR1.kept (fun x a b => hfr2 x (by omega))
      have HT2 : tx h2 1 T := HT1.kept (fun x a b => hfr2 x (by omega))
      obtain ⟨wc, lf, g, H_this_typed, K1, H_this_typed_words, K3⟩ := id HR2
      have hg0 : g (0 : Int).toNat = (sp_enc l : Int) := by
        rw [← hl]
        have := (K3 r0).2 0 (by omega)
        simp [show 0 < R.2.2.length by omega] at this ⊢
        exact this
      obtain ⟨H_this_text, ft2, H_this_text_words, hft2⟩ := id HT2
      refine V_aload_n eX9_change_36 rfl rfl ?_
      refine V_getf eX9_change_37 H_this rfl ?_
      refine V_getf eX9_change_40 H_this_text rfl ?_
      refine V_iload_n eX9_change_43 rfl rfl ?_
      refine V_aload_n eX9_change_44 rfl rfl ?_
      refine V_getf eX9_change_45 H_this rfl ?_
      refine V_getf eX9_change_48 H_this_typed rfl ?_
      refine V_iconst eX9_change_51 ?_
      refine V_lald eX9_change_52 H_this_typed_words (by omega) ?_
      rw [hg0]
      refine V_last eX9_change_53 H_this_text_words (by omega) ?_
      rw [Int.toNat_natCast]
      generalize hh3 : eb_up h2 2 (eb_la 40 (eb_set ft2 w (sp_enc l : Int))) = h3
      have k3 : ∀ k, k ≠ 2 → h3 k = h2 k := fun k hk => by rw [← hh3, eb_up, if_neg hk]
      have kp3 : ∀ k, (k < 2 ∨ (2 < k ∧ k < 3) ∨ 39 < k) → h3 k = h k := fun k hk => (k3 k (by omega)).trans (kp2 k (by omega))
      have H_this : h3 0 = _ := (k3 0 (by omega)).trans H_this
      have HW3 : h3 2 = eb_la 40 (eb_set ft2 w (sp_enc l : Int)) := by rw [← hh3]; exact eb_up_s
      have HT3 : tx h3 1 (T.1.set w l, T.2) := ⟨by rw [List.length_set]; exact (k3 1 (by omega)).trans H_this_text, _, HW3, fun x hx => by
        have hx2 : x < T.1.length := by simp at hx; exact hx
        show eb_set ft2 w (sp_enc l : Int) x = (sp_enc (T.1.set w l)[x] : Int)
        rw [List.getElem_set]
        unfold eb_set
        by_cases y : x = w
        · rw [if_pos y, if_pos y.symm]
        · rw [if_neg y, if_neg (fun q => y q.symm), hft2 x hx2]⟩
      have HX3 : xo h3 := HX.kept (kp3 0 (by omega)) (kp3 41 (by omega))
      have HN3 : lyany h3 46 := now.any (HN.kept (fun x a b => kp3 x (by omega)))
      have HS3 : sur h3 T sees := HS.kept (fun x a b => kp3 x (by omega))
      refine V_aload_n eX9_change_54 rfl rfl ?_
      refine V_cvg eX9_change_55 (c_X9_layAnew (T := (T.1.set w l, T.2)) HX3 HT3 hTX HN3 HS3.any) H_this rfl rfl (Nat.le_of_ble_eq_true rfl) ⟨rfl, rfl⟩ ⟨Nat.zero_le _, Nat.zero_le _⟩ (fun h4 ⟨⟨HN4, HS4⟩, hfr4⟩ => ?_)
      show eb_V _ _ 58 _ [] _ _ _
      have H_this : h4 0 = _ := (hfr4 0 (by omega) (by omega)).trans H_this
      have H_this_text : h4 1 = _ := (hfr4 1 (by omega) (by omega)).trans HT3.1
      have H_this_text_words : h4 2 = _ := (hfr4 2 (by omega) (by omega)).trans HW3
      have e9 : eb_set ft2 w (sp_enc l : Int) ((w : Nat) : Int).toNat = (sp_enc l : Int) := by rw [Int.toNat_natCast]; exact if_pos rfl
      refine V_aload_n eX9_change_58 rfl rfl ?_
      refine V_getf eX9_change_59 H_this rfl ?_
      refine V_getf eX9_change_62 H_this_text rfl ?_
      refine V_iload_n eX9_change_65 rfl rfl ?_
      refine V_lald eX9_change_66 H_this_text_words (by omega) ?_
      rw [e9]
      refine V_csi eX9_change_67 (c_X5_widthOf hl0.1) rfl rfl (Nat.le_of_ble_eq_true rfl) ⟨rfl, rfl⟩ ⟨Nat.zero_le _, Nat.zero_le _⟩ ?_
      exact V_iret eX9_change_70 ⟨Nat.zero_le _, Nat.zero_le _⟩ rfl (rfl) (⟨rfl, rfl, XR.deed HX3 HT3 ((HR2.kept (fun x a b => k3 x (by omega))).at) (HP2.kept (fun x a b => k3 x (by omega))) ((kp3 40 (by omega)).trans HD) (HB.kept (fun x a b => kp3 x (by omega))) (HL.kept (kp3 _ (by omega)) (fun x a b => kp3 x (by omega))) (HI0.kept (fun x a b => kp3 x (by omega))) (HI1.kept (fun x a b => kp3 x (by omega))) HN4 HS4 hfr4, fun k hk => (hfr4 k (by omega) (by omega)).trans (kp3 k (by omega))⟩)
    · exact absurd rfl c_20
  · exact absurd c_8 (by omega)
theorem x9_insert_ok {w : Nat} (HR : XR h T ty fa past seed i0 i1 sees book) (HO : SOK T ty fa past seed i0 i1 sees book) (hc : w ≤ T.1.length) (h40 : T.1.length < 40) (hb : rd1 (rd ty 0 [] 0) = 0) : eb_T mX9_insert [.ref 0, .int (eb_I (w : Int))] n h (eb_G (some (.int (eb_I (sp_ww ((rd ty 0 [] 0).2.2.getD 0 []))))) n (fun h' => XR h' (T.1.take w ++ (rd ty 0 [] 0).2.2.getD 0 [] :: T.1.drop w, T.2) [] (rd ty 0 [] 0).2.1 ((T :: past).take 16) seed i0 i1 sees book ∧ F67 h h')) := by
  refine eb_T.of (by decide +kernel) (Nat.le_of_ble_eq_true rfl) ?_
  show eb_V _ _ 0 [.ref 0, .int (eb_I (w : Int)), eb_no] [] (n, 0, 0) h _
  obtain ⟨HX, HT, HY, HP, HD, HB, HN, HL, HS, HI0, HI1⟩ := HR
  have H_this := HX.1
  have H_this_text := HT.1
  have hN : T.1.length ≤ 40 := HO.1.1.1
  have Tr := c_X9_readOneWord (n := n) HX HY HO.2.1
  have hok := rd_ok ty 0 [] 0 rd_inv_0
  generalize rd ty 0 [] 0 = R at Tr hok hb ⊢
  rw [hb] at Tr
  obtain ⟨r0, r1⟩ := rd1_0 hb hok.2.1
  have hm0 : R.2.2.getD 0 [] ∈ R.2.2 := by
    rw [show R.2.2.getD 0 [] = R.2.2[0]'(by omega) by simp [show 0 < R.2.2.length by omega]]
    exact List.getElem_mem _
  have hl0 := hok.1.2.2.1 _ hm0
  have hTX : TX_ok (T.1.take w ++ R.2.2.getD 0 [] :: T.1.drop w, T.2) := by
    refine ⟨⟨by simp; omega, HO.1.1.2⟩, fun l hl => ?_⟩
    rcases List.mem_append.mp hl with q | q
    · exact HO.1.2 l (List.mem_of_mem_take q)
    · rcases List.mem_cons.mp q with q | q
      · rw [q]
        exact hl0
      · exact HO.1.2 l (List.mem_of_mem_drop q)
  generalize hl : R.2.2.getD 0 [] = l at hl0 hTX hm0 ⊢
  refine V_aload_n eX9_insert_0 rfl rfl ?_
  refine V_getf eX9_insert_1 H_this rfl ?_
  refine V_iload_n eX9_insert_4 rfl rfl ?_
  refine V_cvi eX9_insert_5 (c_X7_hasEnd HT hN (by omega)) H_this_text rfl rfl (Nat.le_of_ble_eq_true rfl) ⟨rfl, rfl⟩ ⟨Nat.zero_le _, Nat.zero_le _⟩ ?_
  rw [if_pos (by omega)]
  refine V_if_ne (tgt := 14) eX9_insert_8 rfl (by omega) (fun c_8 => ?_) (fun c_8 => ?_)
  · refine V_aload_n eX9_insert_14 rfl rfl ?_
    refine V_cvg eX9_insert_15 (Tr) H_this rfl rfl (Nat.le_of_ble_eq_true rfl) ⟨rfl, rfl⟩ ⟨Nat.zero_le _, Nat.zero_le _⟩ (fun h1 ⟨HR1, hfr⟩ => ?_)
    show eb_V _ _ 18 _ [.int (eb_I 0)] _ _ _
    have H_this : h1 0 = _ := (hfr 0 (by omega)).trans H_this
    have HT1 : tx h1 1 T := HT.kept (fun x a b => hfr x (by omega))
    have HP1 : pa_at h1 6 past := HP.kept (fun x a b => hfr x (by omega))
    obtain ⟨pnx, pf, H_this_past, pr⟩ := id HP1
    have H_this_text := HT1.1
    refine V_istore_n eX9_insert_18 rfl (Nat.le_of_ble_eq_true rfl) rfl (eb_sS (eb_sS eb_s0)) ?_
    refine V_iload_n eX9_insert_19 rfl rfl ?_
    refine V_if_eq (tgt := 25) eX9_insert_20 rfl (by omega) (fun c_20 => ?_) (fun c_20 => ?_)
    · refine V_aload_n eX9_insert_25 rfl rfl ?_
      refine V_getf eX9_insert_26 H_this rfl ?_
      refine V_getf eX9_insert_29 H_this_text rfl ?_
      refine V_bipush eX9_insert_32 (by decide) ?_
      refine V_icmp_lt (tgt := 40) eX9_insert_34 rfl (by omega) (fun c_34 => ?_) (fun c_34 => ?_)
      · refine V_aload_n eX9_insert_40 rfl rfl ?_
        refine V_getf eX9_insert_41 H_this rfl ?_
        refine V_aload_n eX9_insert_44 rfl rfl ?_
        refine V_getf eX9_insert_45 H_this rfl ?_
        refine V_cvg eX9_insert_48 (c_X4_remember HP1 HT1 HO.1 (by omega)) H_this_past rfl rfl (Nat.le_of_ble_eq_true rfl) ⟨rfl, rfl⟩ ⟨Nat.zero_le _, Nat.zero_le _⟩ (fun h2 ⟨HP2, hfr2⟩ => ?_)
        show eb_V _ _ 51 _ [] _ _ _
        have kp2 : ∀ k, (k < 3 ∨ 39 < k) → h2 k = h k := fun k hk => (hfr2 k (by omega)).trans (hfr k (by omega))
        have H_this : h2 0 = _ := (hfr2 0 (by omega)).trans H_this
        have HR2 : tyR h2 R := HR1.kept (fun x a b => hfr2 x (by omega))
        have HT2 : tx h2 1 T := HT1.kept (fun x a b => hfr2 x (by omega))
        obtain ⟨wc, lf, g, H_this_typed, K1, H_this_typed_words, K3⟩ := id HR2
        have hg0 : g (0 : Int).toNat = (sp_enc l : Int) := by
          rw [← hl]
          have := (K3 r0).2 0 (by omega)
          simp [show 0 < R.2.2.length by omega] at this ⊢
          exact this
        have H_this_text := HT2.1
        refine V_aload_n eX9_insert_51 rfl rfl ?_
        refine V_getf eX9_insert_52 H_this rfl ?_
        refine V_iload_n eX9_insert_55 rfl rfl ?_
        refine V_aload_n eX9_insert_56 rfl rfl ?_
        refine V_getf eX9_insert_57 H_this rfl ?_
        refine V_getf eX9_insert_60 H_this_typed rfl ?_
        refine V_iconst eX9_insert_63 ?_
        refine V_lald eX9_insert_64 H_this_typed_words (by omega) ?_
        rw [hg0]
        refine V_cvg eX9_insert_65 (c_X7_putIn (l := l) HT2 hc h40) H_this_text rfl rfl (Nat.le_of_ble_eq_true rfl) ⟨rfl, rfl⟩ ⟨Nat.zero_le _, Nat.zero_le _⟩ (fun h3 ⟨HT3, hfr3⟩ => ?_)
        show eb_V _ _ 68 _ [] _ _ _
        have kp3 : ∀ k, (k < 1 ∨ (2 < k ∧ k < 3) ∨ 39 < k) → h3 k = h k := fun k hk => (hfr3 k (by omega)).trans (kp2 k (by omega))
        have H_this : h3 0 = _ := (hfr3 0 (by omega)).trans H_this
        have HR3 : tyR h3 R := HR2.kept (fun x a b => hfr3 x (by omega))
        have HX3 : xo h3 := HX.kept (kp3 0 (by omega)) (kp3 41 (by omega))
        have HN3 : lyany h3 46 := now.any (HN.kept (fun x a b => kp3 x (by omega)))
        have HS3 : sur h3 T sees := HS.kept (fun x a b => kp3 x (by omega))
        have KT : h3 3 = _ := (hfr3 3 (by omega)).trans H_this_typed
        have KW : h3 5 = _ := (hfr3 5 (by omega)).trans H_this_typed_words
        refine V_aload_n eX9_insert_68 rfl rfl ?_
        refine V_cvg eX9_insert_69 (c_X9_layAnew (T := (T.1.take w ++ l :: T.1.drop w, T.2)) HX3 HT3 hTX HN3 HS3.any) H_this rfl rfl (Nat.le_of_ble_eq_true rfl) ⟨rfl, rfl⟩ ⟨Nat.zero_le _, Nat.zero_le _⟩ (fun h4 ⟨⟨HN4, HS4⟩, hfr4⟩ => ?_)
        show eb_V _ _ 72 _ [] _ _ _
        have H_this : h4 0 = _ := (hfr4 0 (by omega) (by omega)).trans H_this
        have H_this_typed : h4 3 = _ := (hfr4 3 (by omega) (by omega)).trans KT
        have H_this_typed_words : h4 5 = _ := (hfr4 5 (by omega) (by omega)).trans KW
        refine V_aload_n eX9_insert_72 rfl rfl ?_
        refine V_getf eX9_insert_73 H_this rfl ?_
        refine V_getf eX9_insert_76 H_this_typed rfl ?_
        refine V_iconst eX9_insert_79 ?_
        refine V_lald eX9_insert_80 H_this_typed_words (by omega) ?_
        rw [hg0]
        refine V_csi eX9_insert_81 (c_X5_widthOf hl0.1) rfl rfl (Nat.le_of_ble_eq_true rfl) ⟨rfl, rfl⟩ ⟨Nat.zero_le _, Nat.zero_le _⟩ ?_
        exact V_iret eX9_insert_84 ⟨Nat.zero_le _, Nat.zero_le _⟩ rfl (rfl) (⟨rfl, rfl, XR.deed HX3 HT3 HR3.at (HP2.kept (fun x a b => hfr3 x (by omega))) ((kp3 40 (by omega)).trans HD) (HB.kept (fun x a b => kp3 x (by omega))) (HL.kept (kp3 _ (by omega)) (fun x a b => kp3 x (by omega))) (HI0.kept (fun x a b => kp3 x (by omega))) (HI1.kept (fun x a b => kp3 x (by omega))) HN4 HS4 hfr4, fun k hk => (hfr4 k (by omega) (by omega)).trans (kp3 k (by omega))⟩)
      · exact absurd (by omega) c_34
    · exact absurd rfl c_20
  · exact absurd c_8 (by omega)
theorem x9_insert_full {w : Nat} (HR : XR h T ty fa past seed i0 i1 sees book) (HO : SOK T ty fa past seed i0 i1 sees book) (hc : w ≤ T.1.length) (h40 : 40 ≤ T.1.length) (hb : rd1 (rd ty 0 [] 0) = 0) : eb_T mX9_insert [.ref 0, .int (eb_I (w : Int))] n h (eb_G (some (.int (eb_I (-1000000004)))) n (fun h' => XR h' T [] (rd ty 0 [] 0).2.1 past seed i0 i1 sees book ∧ F67 h h')) := by
  refine eb_T.of (by decide +kernel) (Nat.le_of_ble_eq_true rfl) ?_
  show eb_V _ _ 0 [.ref 0, .int (eb_I (w : Int)), eb_no] [] (n, 0, 0) h _
  obtain ⟨HX, HT, HY, HP, HD, HB, HN, HL, HS, HI0, HI1⟩ := HR
  have H_this := HX.1
  have H_this_text := HT.1
  have hN : T.1.length ≤ 40 := HO.1.1.1
  have Tr := c_X9_readOneWord (n := n) HX HY HO.2.1
  generalize rd ty 0 [] 0 = R at Tr hb ⊢
  rw [hb] at Tr
  refine V_aload_n eX9_insert_0 rfl rfl ?_
  refine V_getf eX9_insert_1 H_this rfl ?_
  refine V_iload_n eX9_insert_4 rfl rfl ?_
  refine V_cvi eX9_insert_5 (c_X7_hasEnd HT hN (by omega)) H_this_text rfl rfl (Nat.le_of_ble_eq_true rfl) ⟨rfl, rfl⟩ ⟨Nat.zero_le _, Nat.zero_le _⟩ ?_
  rw [if_pos (by omega)]
  refine V_if_ne (tgt := 14) eX9_insert_8 rfl (by omega) (fun c_8 => ?_) (fun c_8 => ?_)
  · refine V_aload_n eX9_insert_14 rfl rfl ?_
    refine V_cvg eX9_insert_15 (Tr) H_this rfl rfl (Nat.le_of_ble_eq_true rfl) ⟨rfl, rfl⟩ ⟨Nat.zero_le _, Nat.zero_le _⟩ (fun h1 ⟨HR1, hfr⟩ => ?_)
    show eb_V _ _ 18 _ [.int (eb_I 0)] _ _ _
    have H_this : h1 0 = _ := (hfr 0 (by omega)).trans H_this
    have HT1 : tx h1 1 T := HT.kept (fun x a b => hfr x (by omega))
    have H_this_text := HT1.1
    refine V_istore_n eX9_insert_18 rfl (Nat.le_of_ble_eq_true rfl) rfl (eb_sS (eb_sS eb_s0)) ?_
    refine V_iload_n eX9_insert_19 rfl rfl ?_
    refine V_if_eq (tgt := 25) eX9_insert_20 rfl (by omega) (fun c_20 => ?_) (fun c_20 => ?_)
    · refine V_aload_n eX9_insert_25 rfl rfl ?_
      refine V_getf eX9_insert_26 H_this rfl ?_
      refine V_getf eX9_insert_29 H_this_text rfl ?_
      refine V_bipush eX9_insert_32 (by decide) ?_
      refine V_icmp_lt (tgt := 40) eX9_insert_34 rfl (by omega) (fun c_34 => ?_) (fun c_34 => ?_)
      · exact absurd c_34 (by omega)
      · refine V_ldc (a := -1000000004) eX9_insert_37 wd_564 (by decide) ?_
        exact V_iret eX9_insert_39 ⟨Nat.zero_le _, Nat.zero_le _⟩ rfl (rfl) (⟨rfl, rfl, ⟨HX.kept (hfr _ (by omega)) (hfr _ (by omega)), HT1, HR1.at, HP.kept (fun x a b => hfr x (by omega)), (hfr _ (by omega)).trans HD, HB.kept (fun x a b => hfr x (by omega)), HN.kept (fun x a b => hfr x (by omega)), HL.kept (hfr _ (by omega)) (fun x a b => hfr x (by omega)), HS.kept (fun x a b => hfr x (by omega)), HI0.kept (fun x a b => hfr x (by omega)), HI1.kept (fun x a b => hfr x (by omega))⟩, fun k hk => hfr k (by omega)⟩)
    · exact absurd rfl c_20
  · exact absurd c_8 (by omega)
theorem x9_take_ok {w : Nat} (HR : XR h T ty fa past seed i0 i1 sees book) (HO : SOK T ty fa past seed i0 i1 sees book) (hc : w < T.1.length) : eb_T mX9_take [.ref 0, .int (eb_I (w : Int))] n h (eb_G (some (.int (eb_I (sp_ww (T.1.getD w []))))) n (fun h' => XR h' (T.1.take w ++ T.1.drop (w + 1), T.2) ty fa ((T :: past).take 16) seed i0 i1 sees book ∧ F67 h h')) := by
  refine eb_T.of (by decide +kernel) (Nat.le_of_ble_eq_true rfl) ?_
  show eb_V _ _ 0 [.ref 0, .int (eb_I (w : Int)), eb_no] [] (n, 0, 0) h _
  obtain ⟨HX, HT, HY, HP, HD, HB, HN, HL, HS, HI0, HI1⟩ := HR
  have H_this := HX.1
  have hN : T.1.length ≤ 40 := HO.1.1.1
  have hl0 := HO.1.2 T.1[w] (List.getElem_mem hc)
  have hTX : TX_ok (T.1.take w ++ T.1.drop (w + 1), T.2) := by
    refine ⟨⟨by simp; omega, HO.1.1.2⟩, fun l hl => ?_⟩
    rcases List.mem_append.mp hl with q | q
    · exact HO.1.2 l (List.mem_of_mem_take q)
    · exact HO.1.2 l (List.mem_of_mem_drop q)
  rw [show T.1.getD w [] = T.1[w] by simp [hc]]
  obtain ⟨pnx, pf, H_this_past, pr⟩ := id HP
  obtain ⟨H_this_text, f, H_this_text_words, hf⟩ := id HT
  refine V_aload_n eX9_take_0 rfl rfl ?_
  refine V_getf eX9_take_1 H_this rfl ?_
  refine V_iload_n eX9_take_4 rfl rfl ?_
  refine V_cvi eX9_take_5 (c_X7_hasWord HT hN (by omega)) H_this_text rfl rfl (Nat.le_of_ble_eq_true rfl) ⟨rfl, rfl⟩ ⟨Nat.zero_le _, Nat.zero_le _⟩ ?_
  rw [if_pos (by omega)]
  refine V_if_ne (tgt := 14) eX9_take_8 rfl (by omega) (fun c_8 => ?_) (fun c_8 => ?_)
  · refine V_aload_n eX9_take_14 rfl rfl ?_
    refine V_getf eX9_take_15 H_this rfl ?_
    refine V_getf eX9_take_18 H_this_text rfl ?_
    refine V_iload_n eX9_take_21 rfl rfl ?_
    refine V_lald eX9_take_22 H_this_text_words (by omega) ?_
    rw [Int.toNat_natCast, hf w hc]
    refine V_csi eX9_take_23 (c_X5_widthOf hl0.1) rfl rfl (Nat.le_of_ble_eq_true rfl) ⟨rfl, rfl⟩ ⟨Nat.zero_le _, Nat.zero_le _⟩ ?_
    refine V_istore_n eX9_take_26 rfl (Nat.le_of_ble_eq_true rfl) rfl (eb_sS (eb_sS eb_s0)) ?_
    refine V_aload_n eX9_take_27 rfl rfl ?_
    refine V_getf eX9_take_28 H_this rfl ?_
    refine V_aload_n eX9_take_31 rfl rfl ?_
    refine V_getf eX9_take_32 H_this rfl ?_
    refine V_cvg eX9_take_35 (c_X4_remember HP HT HO.1 (by omega)) H_this_past rfl rfl (Nat.le_of_ble_eq_true rfl) ⟨rfl, rfl⟩ ⟨Nat.zero_le _, Nat.zero_le _⟩ (fun h2 ⟨HP2, hfr2⟩ => ?_)
    show eb_V _ _ 38 _ [] _ _ _
    have H_this : h2 0 = _ := (hfr2 0 (by omega)).trans H_this
    have HT2 : tx h2 1 T := HT.kept (fun x a b => hfr2 x (by omega))
    have H_this_text := HT2.1
    refine V_aload_n eX9_take_38 rfl rfl ?_
    refine V_getf eX9_take_39 H_this rfl ?_
    refine V_iload_n eX9_take_42 rfl rfl ?_
    refine V_cvg eX9_take_43 (c_X7_takeOut HT2 hc hN) H_this_text rfl rfl (Nat.le_of_ble_eq_true rfl) ⟨rfl, rfl⟩ ⟨Nat.zero_le _, Nat.zero_le _⟩ (fun h3 ⟨HT3, hfr3⟩ => ?_)
    show eb_V _ _ 46 _ [] _ _ _
    have kp3 : ∀ k, (k < 1 ∨ (2 < k ∧ k < 6) ∨ 39 < k) → h3 k = h k := fun k hk => (hfr3 k (by omega)).trans (hfr2 k (by omega))
    have H_this : h3 0 = _ := (hfr3 0 (by omega)).trans H_this
    have HX3 : xo h3 := HX.kept (kp3 0 (by omega)) (kp3 41 (by omega))
    have HN3 : lyany h3 46 := now.any (HN.kept (fun x a b => kp3 x (by omega)))
    have HS3 : sur h3 T sees := HS.kept (fun x a b => kp3 x (by omega))
    refine V_aload_n eX9_take_46 rfl rfl ?_
    refine V_cvg eX9_take_47 (c_X9_layAnew (T := (T.1.take w ++ T.1.drop (w + 1), T.2)) HX3 HT3 hTX HN3 HS3.any) H_this rfl rfl (Nat.le_of_ble_eq_true rfl) ⟨rfl, rfl⟩ ⟨Nat.zero_le _, Nat.zero_le _⟩ (fun h4 ⟨⟨HN4, HS4⟩, hfr4⟩ => ?_)
    show eb_V _ _ 50 _ [] _ _ _
    refine V_iload_n eX9_take_50 rfl rfl ?_
    exact V_iret eX9_take_51 ⟨Nat.zero_le _, Nat.zero_le _⟩ rfl (rfl) (⟨rfl, rfl, XR.deed HX3 HT3 (HY.kept (fun x a b => kp3 x (by omega))) (HP2.kept (fun x a b => hfr3 x (by omega))) ((kp3 40 (by omega)).trans HD) (HB.kept (fun x a b => kp3 x (by omega))) (HL.kept (kp3 _ (by omega)) (fun x a b => kp3 x (by omega))) (HI0.kept (fun x a b => kp3 x (by omega))) (HI1.kept (fun x a b => kp3 x (by omega))) HN4 HS4 hfr4, fun k hk => (hfr4 k (by omega) (by omega)).trans (kp3 k (by omega))⟩)
  · exact absurd c_8 (by omega)
theorem x9_measure_out {v : Int} (HR : XR h T ty fa past seed i0 i1 sees book) (HO : SOK T ty fa past seed i0 i1 sees book) (hv : -2147483648 ≤ v ∧ v ≤ 2147483647) (hc : ¬ (1 ≤ v ∧ v ≤ 200)) : eb_T mX9_measure [.ref 0, .int (eb_I v)] n h (eb_G (some (.int (eb_I (-1000000002)))) n (fun h' => XR h' T ty fa past seed i0 i1 sees book ∧ F67 h h')) := by
  refine eb_T.of (by decide +kernel) (Nat.le_of_ble_eq_true rfl) ?_
  show eb_V _ _ 0 [.ref 0, .int (eb_I v)] [] (n, 0, 0) h _
  refine V_iload_n eX9_measure_0 rfl rfl ?_
  refine V_iconst eX9_measure_1 ?_
  refine V_icmp_lt (tgt := 12) eX9_measure_2 rfl (by omega) (fun c_2 => ?_) (fun c_2 => ?_)
  · refine V_ldc (a := -1000000002) eX9_measure_12 wd_376 (by decide) ?_
    exact V_iret eX9_measure_14 ⟨Nat.zero_le _, Nat.zero_le _⟩ rfl (rfl) (⟨rfl, rfl, HR, F67.rf⟩)
  · refine V_iload_n eX9_measure_5 rfl rfl ?_
    refine V_sipush eX9_measure_6 (by decide) ?_
    refine V_icmp_le (tgt := 15) eX9_measure_9 rfl (by omega) (fun c_9 => ?_) (fun c_9 => ?_)
    · exact absurd c_9 (by omega)
    · refine V_ldc (a := -1000000002) eX9_measure_12 wd_376 (by decide) ?_
      exact V_iret eX9_measure_14 ⟨Nat.zero_le _, Nat.zero_le _⟩ rfl (rfl) (⟨rfl, rfl, HR, F67.rf⟩)
theorem x9_measure_ok {v : Int} (HR : XR h T ty fa past seed i0 i1 sees book) (HO : SOK T ty fa past seed i0 i1 sees book) (hc : 1 ≤ v ∧ v ≤ 200) : eb_T mX9_measure [.ref 0, .int (eb_I v)] n h (eb_G (some (.int (eb_I (dp_t (lt_c (txq (T.1, v, T.2.2.1, T.2.2.2.1, T.2.2.2.2))) T.1.length)))) n (fun h' => XR h' (T.1, v, T.2.2.1, T.2.2.2.1, T.2.2.2.2) ty fa ((T :: past).take 16) seed i0 i1 sees book ∧ F67 h h')) := by
  refine eb_T.of (by decide +kernel) (Nat.le_of_ble_eq_true rfl) ?_
  show eb_V _ _ 0 [.ref 0, .int (eb_I v)] [] (n, 0, 0) h _
  obtain ⟨HX, HT, HY, HP, HD, HB, HN, HL, HS, HI0, HI1⟩ := HR
  have H_this := HX.1
  have hN : T.1.length ≤ 40 := HO.1.1.1
  have hTX : TX_ok (T.1, v, T.2.2.1, T.2.2.2.1, T.2.2.2.2) := by
    obtain ⟨⟨a1, a2, a3, a4, a5⟩, a6⟩ := HO.1
    exact ⟨⟨a1, hc, a3, a4, a5⟩, a6⟩
  obtain ⟨pnx, pf, H_this_past, pr⟩ := id HP
  obtain ⟨H_this_text, f, H_this_text_words, hf⟩ := id HT
  refine V_iload_n eX9_measure_0 rfl rfl ?_
  refine V_iconst eX9_measure_1 ?_
  refine V_icmp_lt (tgt := 12) eX9_measure_2 rfl (by omega) (fun c_2 => ?_) (fun c_2 => ?_)
  · exact absurd c_2 (by omega)
  · refine V_iload_n eX9_measure_5 rfl rfl ?_
    refine V_sipush eX9_measure_6 (by decide) ?_
    refine V_icmp_le (tgt := 15) eX9_measure_9 rfl (by omega) (fun c_9 => ?_) (fun c_9 => ?_)
    · refine V_aload_n eX9_measure_15 rfl rfl ?_
      refine V_getf eX9_measure_16 H_this rfl ?_
      refine V_aload_n eX9_measure_19 rfl rfl ?_
      refine V_getf eX9_measure_20 H_this rfl ?_
      refine V_cvg eX9_measure_23 (c_X4_remember HP HT HO.1 (by omega)) H_this_past rfl rfl (Nat.le_of_ble_eq_true rfl) ⟨rfl, rfl⟩ ⟨Nat.zero_le _, Nat.zero_le _⟩ (fun h2 ⟨HP2, hfr2⟩ => ?_)
      show eb_V _ _ 26 _ [] _ _ _
      have H_this : h2 0 = _ := (hfr2 0 (by omega)).trans H_this
      have HT2 : tx h2 1 T := HT.kept (fun x a b => hfr2 x (by omega))
      obtain ⟨H_this_text, f2, H_tw2, hf2⟩ := HT2
      refine V_aload_n eX9_measure_26 rfl rfl ?_
      refine V_getf eX9_measure_27 H_this rfl ?_
      refine V_iload_n eX9_measure_30 rfl rfl ?_
      refine V_putf eX9_measure_31 H_this_text eb_fitI (eb_sS (eb_sS eb_s0)) (Nat.le_of_ble_eq_true rfl) ?_
      generalize hh3 : eb_up h2 1 (tx_obj 1 T.1.length v T.2.2.1 T.2.2.2.1 T.2.2.2.2) = h3
      have k3 : ∀ k, k ≠ 1 → h3 k = h2 k := fun k hk => by rw [← hh3, eb_up, if_neg hk]
      have kp3 : ∀ k, (k < 1 ∨ (1 < k ∧ k < 6) ∨ 39 < k) → h3 k = h k := fun k hk => (k3 k (by omega)).trans (hfr2 k (by omega))
      have H_this : h3 0 = _ := (k3 0 (by omega)).trans H_this
      have HT3 : tx h3 1 (T.1, v, T.2.2.1, T.2.2.2.1, T.2.2.2.2) := ⟨by rw [← hh3]; exact eb_up_s, f2, (k3 2 (by omega)).trans H_tw2, hf2⟩
      have HX3 : xo h3 := HX.kept (kp3 0 (by omega)) (kp3 41 (by omega))
      have HN3 : lyany h3 46 := now.any (HN.kept (fun x a b => kp3 x (by omega)))
      have HS3 : sur h3 T sees := HS.kept (fun x a b => kp3 x (by omega))
      refine V_aload_n eX9_measure_34 rfl rfl ?_
      refine V_cvg eX9_measure_35 (c_X9_layAnew (T := (T.1, v, T.2.2.1, T.2.2.2.1, T.2.2.2.2)) HX3 HT3 hTX HN3 HS3.any) H_this rfl rfl (Nat.le_of_ble_eq_true rfl) ⟨rfl, rfl⟩ ⟨Nat.zero_le _, Nat.zero_le _⟩ (fun h4 ⟨⟨HN4, HS4⟩, hfr4⟩ => ?_)
      show eb_V _ _ 38 _ [] _ _ _
      have H_this : h4 0 = _ := (hfr4 0 (by omega) (by omega)).trans H_this
      obtain ⟨ro4, pl4, to4, ow4, lb4, HL4, hpl4, hto4, hr4⟩ := id HN4
      have H_this_now := HL4.1
      have et : to4 T.1.length = dp_t (lt_c (txq (T.1, v, T.2.2.1, T.2.2.2.1, T.2.2.2.2))) T.1.length := hto4 T.1.length (Nat.le_refl _)
      refine V_aload_n eX9_measure_38 rfl rfl ?_
      refine V_getf eX9_measure_39 H_this rfl ?_
      refine V_cvi eX9_measure_42 (c_X3_lastTotal HL4 hN) H_this_now rfl rfl (Nat.le_of_ble_eq_true rfl) ⟨rfl, rfl⟩ ⟨Nat.zero_le _, Nat.zero_le _⟩ ?_
      rw [et]
      exact V_iret eX9_measure_45 ⟨Nat.zero_le _, Nat.zero_le _⟩ rfl (rfl) (⟨rfl, rfl, XR.deed HX3 HT3 (HY.kept (fun x a b => kp3 x (by omega))) (HP2.kept (fun x a b => k3 x (by omega))) ((kp3 40 (by omega)).trans HD) (HB.kept (fun x a b => kp3 x (by omega))) (HL.kept (kp3 _ (by omega)) (fun x a b => kp3 x (by omega))) (HI0.kept (fun x a b => kp3 x (by omega))) (HI1.kept (fun x a b => kp3 x (by omega))) HN4 HS4 hfr4, fun k hk => (hfr4 k (by omega) (by omega)).trans (kp3 k (by omega))⟩)
    · exact absurd (by omega) c_9
theorem x9_rule_out {v : Int} (HR : XR h T ty fa past seed i0 i1 sees book) (HO : SOK T ty fa past seed i0 i1 sees book) (hv : -2147483648 ≤ v ∧ v ≤ 2147483647) (hc : ¬ (0 ≤ v ∧ v ≤ 4)) : eb_T mX9_rule [.ref 0, .int (eb_I v)] n h (eb_G (some (.int (eb_I (-1000000002)))) n (fun h' => XR h' T ty fa past seed i0 i1 sees book ∧ F67 h h')) := by
  refine eb_T.of (by decide +kernel) (Nat.le_of_ble_eq_true rfl) ?_
  show eb_V _ _ 0 [.ref 0, .int (eb_I v)] [] (n, 0, 0) h _
  refine V_iload_n eX9_rule_0 rfl rfl ?_
  refine V_if_lt (tgt := 9) eX9_rule_1 rfl (by omega) (fun c_1 => ?_) (fun c_1 => ?_)
  · refine V_ldc (a := -1000000002) eX9_rule_9 wd_376 (by decide) ?_
    exact V_iret eX9_rule_11 ⟨Nat.zero_le _, Nat.zero_le _⟩ rfl (rfl) (⟨rfl, rfl, HR, F67.rf⟩)
  · refine V_iload_n eX9_rule_4 rfl rfl ?_
    refine V_iconst eX9_rule_5 ?_
    refine V_icmp_le (tgt := 12) eX9_rule_6 rfl (by omega) (fun c_6 => ?_) (fun c_6 => ?_)
    · exact absurd c_6 (by omega)
    · refine V_ldc (a := -1000000002) eX9_rule_9 wd_376 (by decide) ?_
      exact V_iret eX9_rule_11 ⟨Nat.zero_le _, Nat.zero_le _⟩ rfl (rfl) (⟨rfl, rfl, HR, F67.rf⟩)
theorem x9_rule_ok {v : Int} (HR : XR h T ty fa past seed i0 i1 sees book) (HO : SOK T ty fa past seed i0 i1 sees book) (hc : 0 ≤ v ∧ v ≤ 4) : eb_T mX9_rule [.ref 0, .int (eb_I v)] n h (eb_G (some (.int (eb_I (dp_t (lt_c (txq (T.1, T.2.1, v, T.2.2.2.1, T.2.2.2.2))) T.1.length)))) n (fun h' => XR h' (T.1, T.2.1, v, T.2.2.2.1, T.2.2.2.2) ty fa ((T :: past).take 16) seed i0 i1 sees book ∧ F67 h h')) := by
  refine eb_T.of (by decide +kernel) (Nat.le_of_ble_eq_true rfl) ?_
  show eb_V _ _ 0 [.ref 0, .int (eb_I v)] [] (n, 0, 0) h _
  obtain ⟨HX, HT, HY, HP, HD, HB, HN, HL, HS, HI0, HI1⟩ := HR
  have H_this := HX.1
  have hN : T.1.length ≤ 40 := HO.1.1.1
  have hTX : TX_ok (T.1, T.2.1, v, T.2.2.2.1, T.2.2.2.2) := by
    obtain ⟨⟨a1, a2, a3, a4, a5⟩, a6⟩ := HO.1
    exact ⟨⟨a1, a2, hc, a4, a5⟩, a6⟩
  obtain ⟨pnx, pf, H_this_past, pr⟩ := id HP
  obtain ⟨H_this_text, f, H_this_text_words, hf⟩ := id HT
  refine V_iload_n eX9_rule_0 rfl rfl ?_
  refine V_if_lt (tgt := 9) eX9_rule_1 rfl (by omega) (fun c_1 => ?_) (fun c_1 => ?_)
  · exact absurd c_1 (by omega)
  · refine V_iload_n eX9_rule_4 rfl rfl ?_
    refine V_iconst eX9_rule_5 ?_
    refine V_icmp_le (tgt := 12) eX9_rule_6 rfl (by omega) (fun c_6 => ?_) (fun c_6 => ?_)
    · refine V_aload_n eX9_rule_12 rfl rfl ?_
      refine V_getf eX9_rule_13 H_this rfl ?_
      refine V_aload_n eX9_rule_16 rfl rfl ?_
      refine V_getf eX9_rule_17 H_this rfl ?_
      refine V_cvg eX9_rule_20 (c_X4_remember HP HT HO.1 (by omega)) H_this_past rfl rfl (Nat.le_of_ble_eq_true rfl) ⟨rfl, rfl⟩ ⟨Nat.zero_le _, Nat.zero_le _⟩ (fun h2 ⟨HP2, hfr2⟩ => ?_)
      show eb_V _ _ 23 _ [] _ _ _
      have H_this : h2 0 = _ := (hfr2 0 (by omega)).trans H_this
      have HT2 : tx h2 1 T := HT.kept (fun x a b => hfr2 x (by omega))
      obtain ⟨H_this_text, f2, H_tw2, hf2⟩ := HT2
      refine V_aload_n eX9_rule_23 rfl rfl ?_
      refine V_getf eX9_rule_24 H_this rfl ?_
      refine V_iload_n eX9_rule_27 rfl rfl ?_
      refine V_putf eX9_rule_28 H_this_text eb_fitI (eb_sS (eb_sS (eb_sS eb_s0))) (Nat.le_of_ble_eq_true rfl) ?_
      generalize hh3 : eb_up h2 1 (tx_obj 1 T.1.length T.2.1 v T.2.2.2.1 T.2.2.2.2) = h3
      have k3 : ∀ k, k ≠ 1 → h3 k = h2 k := fun k hk => by rw [← hh3, eb_up, if_neg hk]
      have kp3 : ∀ k, (k < 1 ∨ (1 < k ∧ k < 6) ∨ 39 < k) → h3 k = h k := fun k hk => (k3 k (by omega)).trans (hfr2 k (by omega))
      have H_this : h3 0 = _ := (k3 0 (by omega)).trans H_this
      have HT3 : tx h3 1 (T.1, T.2.1, v, T.2.2.2.1, T.2.2.2.2) := ⟨by rw [← hh3]; exact eb_up_s, f2, (k3 2 (by omega)).trans H_tw2, hf2⟩
      have HX3 : xo h3 := HX.kept (kp3 0 (by omega)) (kp3 41 (by omega))
      have HN3 : lyany h3 46 := now.any (HN.kept (fun x a b => kp3 x (by omega)))
      have HS3 : sur h3 T sees := HS.kept (fun x a b => kp3 x (by omega))
      refine V_aload_n eX9_rule_31 rfl rfl ?_
      refine V_cvg eX9_rule_32 (c_X9_layAnew (T := (T.1, T.2.1, v, T.2.2.2.1, T.2.2.2.2)) HX3 HT3 hTX HN3 HS3.any) H_this rfl rfl (Nat.le_of_ble_eq_true rfl) ⟨rfl, rfl⟩ ⟨Nat.zero_le _, Nat.zero_le _⟩ (fun h4 ⟨⟨HN4, HS4⟩, hfr4⟩ => ?_)
      show eb_V _ _ 35 _ [] _ _ _
      have H_this : h4 0 = _ := (hfr4 0 (by omega) (by omega)).trans H_this
      obtain ⟨ro4, pl4, to4, ow4, lb4, HL4, hpl4, hto4, hr4⟩ := id HN4
      have H_this_now := HL4.1
      have et : to4 T.1.length = dp_t (lt_c (txq (T.1, T.2.1, v, T.2.2.2.1, T.2.2.2.2))) T.1.length := hto4 T.1.length (Nat.le_refl _)
      refine V_aload_n eX9_rule_35 rfl rfl ?_
      refine V_getf eX9_rule_36 H_this rfl ?_
      refine V_cvi eX9_rule_39 (c_X3_lastTotal HL4 hN) H_this_now rfl rfl (Nat.le_of_ble_eq_true rfl) ⟨rfl, rfl⟩ ⟨Nat.zero_le _, Nat.zero_le _⟩ ?_
      rw [et]
      exact V_iret eX9_rule_42 ⟨Nat.zero_le _, Nat.zero_le _⟩ rfl (rfl) (⟨rfl, rfl, XR.deed HX3 HT3 (HY.kept (fun x a b => kp3 x (by omega))) (HP2.kept (fun x a b => k3 x (by omega))) ((kp3 40 (by omega)).trans HD) (HB.kept (fun x a b => kp3 x (by omega))) (HL.kept (kp3 _ (by omega)) (fun x a b => kp3 x (by omega))) (HI0.kept (fun x a b => kp3 x (by omega))) (HI1.kept (fun x a b => kp3 x (by omega))) HN4 HS4 hfr4, fun k hk => (hfr4 k (by omega) (by omega)).trans (kp3 k (by omega))⟩)
    · exact absurd (by omega) c_6
theorem x9_fee_out {v : Int} (HR : XR h T ty fa past seed i0 i1 sees book) (HO : SOK T ty fa past seed i0 i1 sees book) (hv : -2147483648 ≤ v ∧ v ≤ 2147483647) (hc : ¬ (0 ≤ v ∧ v ≤ 99)) : eb_T mX9_fee [.ref 0, .int (eb_I v)] n h (eb_G (some (.int (eb_I (-1000000002)))) n (fun h' => XR h' T ty fa past seed i0 i1 sees book ∧ F67 h h')) := by
  refine eb_T.of (by decide +kernel) (Nat.le_of_ble_eq_true rfl) ?_
  show eb_V _ _ 0 [.ref 0, .int (eb_I v)] [] (n, 0, 0) h _
  refine V_iload_n eX9_fee_0 rfl rfl ?_
  refine V_if_lt (tgt := 10) eX9_fee_1 rfl (by omega) (fun c_1 => ?_) (fun c_1 => ?_)
  · refine V_ldc (a := -1000000002) eX9_fee_10 wd_376 (by decide) ?_
    exact V_iret eX9_fee_12 ⟨Nat.zero_le _, Nat.zero_le _⟩ rfl (rfl) (⟨rfl, rfl, HR, F67.rf⟩)
  · refine V_iload_n eX9_fee_4 rfl rfl ?_
    refine V_bipush eX9_fee_5 (by decide) ?_
    refine V_icmp_le (tgt := 13) eX9_fee_7 rfl (by omega) (fun c_7 => ?_) (fun c_7 => ?_)
    · exact absurd c_7 (by omega)
    · refine V_ldc (a := -1000000002) eX9_fee_10 wd_376 (by decide) ?_
      exact V_iret eX9_fee_12 ⟨Nat.zero_le _, Nat.zero_le _⟩ rfl (rfl) (⟨rfl, rfl, HR, F67.rf⟩)
theorem x9_fee_ok {v : Int} (HR : XR h T ty fa past seed i0 i1 sees book) (HO : SOK T ty fa past seed i0 i1 sees book) (hc : 0 ≤ v ∧ v ≤ 99) : eb_T mX9_fee [.ref 0, .int (eb_I v)] n h (eb_G (some (.int (eb_I (dp_t (lt_c (txq (T.1, T.2.1, T.2.2.1, v, T.2.2.2.2))) T.1.length)))) n (fun h' => XR h' (T.1, T.2.1, T.2.2.1, v, T.2.2.2.2) ty fa ((T :: past).take 16) seed i0 i1 sees book ∧ F67 h h')) := by
  refine eb_T.of (by decide +kernel) (Nat.le_of_ble_eq_true rfl) ?_
  show eb_V _ _ 0 [.ref 0, .int (eb_I v)] [] (n, 0, 0) h _
  obtain ⟨HX, HT, HY, HP, HD, HB, HN, HL, HS, HI0, HI1⟩ := HR
  have H_this := HX.1
  have hN : T.1.length ≤ 40 := HO.1.1.1
  have hTX : TX_ok (T.1, T.2.1, T.2.2.1, v, T.2.2.2.2) := by
    obtain ⟨⟨a1, a2, a3, a4, a5⟩, a6⟩ := HO.1
    exact ⟨⟨a1, a2, a3, hc, a5⟩, a6⟩
  obtain ⟨pnx, pf, H_this_past, pr⟩ := id HP
  obtain ⟨H_this_text, f, H_this_text_words, hf⟩ := id HT
  refine V_iload_n eX9_fee_0 rfl rfl ?_
  refine V_if_lt (tgt := 10) eX9_fee_1 rfl (by omega) (fun c_1 => ?_) (fun c_1 => ?_)
  · exact absurd c_1 (by omega)
  · refine V_iload_n eX9_fee_4 rfl rfl ?_
    refine V_bipush eX9_fee_5 (by decide) ?_
    refine V_icmp_le (tgt := 13) eX9_fee_7 rfl (by omega) (fun c_7 => ?_) (fun c_7 => ?_)
    · refine V_aload_n eX9_fee_13 rfl rfl ?_
      refine V_getf eX9_fee_14 H_this rfl ?_
      refine V_aload_n eX9_fee_17 rfl rfl ?_
      refine V_getf eX9_fee_18 H_this rfl ?_
      refine V_cvg eX9_fee_21 (c_X4_remember HP HT HO.1 (by omega)) H_this_past rfl rfl (Nat.le_of_ble_eq_true rfl) ⟨rfl, rfl⟩ ⟨Nat.zero_le _, Nat.zero_le _⟩ (fun h2 ⟨HP2, hfr2⟩ => ?_)
      show eb_V _ _ 24 _ [] _ _ _
      have H_this : h2 0 = _ := (hfr2 0 (by omega)).trans H_this
      have HT2 : tx h2 1 T := HT.kept (fun x a b => hfr2 x (by omega))
      obtain ⟨H_this_text, f2, H_tw2, hf2⟩ := HT2
      refine V_aload_n eX9_fee_24 rfl rfl ?_
      refine V_getf eX9_fee_25 H_this rfl ?_
      refine V_iload_n eX9_fee_28 rfl rfl ?_
      refine V_putf eX9_fee_29 H_this_text eb_fitI (eb_sS (eb_sS (eb_sS (eb_sS eb_s0)))) (Nat.le_of_ble_eq_true rfl) ?_
      generalize hh3 : eb_up h2 1 (tx_obj 1 T.1.length T.2.1 T.2.2.1 v T.2.2.2.2) = h3
      have k3 : ∀ k, k ≠ 1 → h3 k = h2 k := fun k hk => by rw [← hh3, eb_up, if_neg hk]
      have kp3 : ∀ k, (k < 1 ∨ (1 < k ∧ k < 6) ∨ 39 < k) → h3 k = h k := fun k hk => (k3 k (by omega)).trans (hfr2 k (by omega))
      have H_this : h3 0 = _ := (k3 0 (by omega)).trans H_this
      have HT3 : tx h3 1 (T.1, T.2.1, T.2.2.1, v, T.2.2.2.2) := ⟨by rw [← hh3]; exact eb_up_s, f2, (k3 2 (by omega)).trans H_tw2, hf2⟩
      have HX3 : xo h3 := HX.kept (kp3 0 (by omega)) (kp3 41 (by omega))
      have HN3 : lyany h3 46 := now.any (HN.kept (fun x a b => kp3 x (by omega)))
      have HS3 : sur h3 T sees := HS.kept (fun x a b => kp3 x (by omega))
      refine V_aload_n eX9_fee_32 rfl rfl ?_
      refine V_cvg eX9_fee_33 (c_X9_layAnew (T := (T.1, T.2.1, T.2.2.1, v, T.2.2.2.2)) HX3 HT3 hTX HN3 HS3.any) H_this rfl rfl (Nat.le_of_ble_eq_true rfl) ⟨rfl, rfl⟩ ⟨Nat.zero_le _, Nat.zero_le _⟩ (fun h4 ⟨⟨HN4, HS4⟩, hfr4⟩ => ?_)
      show eb_V _ _ 36 _ [] _ _ _
      have H_this : h4 0 = _ := (hfr4 0 (by omega) (by omega)).trans H_this
      obtain ⟨ro4, pl4, to4, ow4, lb4, HL4, hpl4, hto4, hr4⟩ := id HN4
      have H_this_now := HL4.1
      have et : to4 T.1.length = dp_t (lt_c (txq (T.1, T.2.1, T.2.2.1, v, T.2.2.2.2))) T.1.length := hto4 T.1.length (Nat.le_refl _)
      refine V_aload_n eX9_fee_36 rfl rfl ?_
      refine V_getf eX9_fee_37 H_this rfl ?_
      refine V_cvi eX9_fee_40 (c_X3_lastTotal HL4 hN) H_this_now rfl rfl (Nat.le_of_ble_eq_true rfl) ⟨rfl, rfl⟩ ⟨Nat.zero_le _, Nat.zero_le _⟩ ?_
      rw [et]
      exact V_iret eX9_fee_43 ⟨Nat.zero_le _, Nat.zero_le _⟩ rfl (rfl) (⟨rfl, rfl, XR.deed HX3 HT3 (HY.kept (fun x a b => kp3 x (by omega))) (HP2.kept (fun x a b => k3 x (by omega))) ((kp3 40 (by omega)).trans HD) (HB.kept (fun x a b => kp3 x (by omega))) (HL.kept (kp3 _ (by omega)) (fun x a b => kp3 x (by omega))) (HI0.kept (fun x a b => kp3 x (by omega))) (HI1.kept (fun x a b => kp3 x (by omega))) HN4 HS4 hfr4, fun k hk => (hfr4 k (by omega) (by omega)).trans (kp3 k (by omega))⟩)
    · exact absurd (by omega) c_7
theorem x9_free_ok {v : Int} (HR : XR h T ty fa past seed i0 i1 sees book) (HO : SOK T ty fa past seed i0 i1 sees book) (hc : 0 ≤ v ∧ v ≤ 1) : eb_T mX9_free [.ref 0, .int (eb_I v)] n h (eb_G (some (.int (eb_I (dp_t (lt_c (txq (T.1, T.2.1, T.2.2.1, T.2.2.2.1, v))) T.1.length)))) n (fun h' => XR h' (T.1, T.2.1, T.2.2.1, T.2.2.2.1, v) ty fa ((T :: past).take 16) seed i0 i1 sees book ∧ F67 h h')) := by
  refine eb_T.of (by decide +kernel) (Nat.le_of_ble_eq_true rfl) ?_
  show eb_V _ _ 0 [.ref 0, .int (eb_I v)] [] (n, 0, 0) h _
  obtain ⟨HX, HT, HY, HP, HD, HB, HN, HL, HS, HI0, HI1⟩ := HR
  have H_this := HX.1
  have hN : T.1.length ≤ 40 := HO.1.1.1
  have hTX : TX_ok (T.1, T.2.1, T.2.2.1, T.2.2.2.1, v) := by
    obtain ⟨⟨a1, a2, a3, a4, a5⟩, a6⟩ := HO.1
    exact ⟨⟨a1, a2, a3, a4, by show v = 0 ∨ v = 1; omega⟩, a6⟩
  obtain ⟨pnx, pf, H_this_past, pr⟩ := id HP
  obtain ⟨H_this_text, f, H_this_text_words, hf⟩ := id HT
  refine V_aload_n eX9_free_0 rfl rfl ?_
  refine V_getf eX9_free_1 H_this rfl ?_
  refine V_aload_n eX9_free_4 rfl rfl ?_
  refine V_getf eX9_free_5 H_this rfl ?_
  refine V_cvg eX9_free_8 (c_X4_remember HP HT HO.1 (by omega)) H_this_past rfl rfl (Nat.le_of_ble_eq_true rfl) ⟨rfl, rfl⟩ ⟨Nat.zero_le _, Nat.zero_le _⟩ (fun h2 ⟨HP2, hfr2⟩ => ?_)
  show eb_V _ _ 11 _ [] _ _ _
  have H_this : h2 0 = _ := (hfr2 0 (by omega)).trans H_this
  have HT2 : tx h2 1 T := HT.kept (fun x a b => hfr2 x (by omega))
  obtain ⟨H_this_text, f2, H_tw2, hf2⟩ := HT2
  refine V_aload_n eX9_free_11 rfl rfl ?_
  refine V_getf eX9_free_12 H_this rfl ?_
  refine V_iload_n eX9_free_15 rfl rfl ?_
  refine V_putf eX9_free_16 H_this_text (eb_fitZ (by omega)) (eb_sS (eb_sS (eb_sS (eb_sS (eb_sS eb_s0))))) (Nat.le_of_ble_eq_true rfl) ?_
  generalize hh3 : eb_up h2 1 (tx_obj 1 T.1.length T.2.1 T.2.2.1 T.2.2.2.1 v) = h3
  have k3 : ∀ k, k ≠ 1 → h3 k = h2 k := fun k hk => by rw [← hh3, eb_up, if_neg hk]
  have kp3 : ∀ k, (k < 1 ∨ (1 < k ∧ k < 6) ∨ 39 < k) → h3 k = h k := fun k hk => (k3 k (by omega)).trans (hfr2 k (by omega))
  have H_this : h3 0 = _ := (k3 0 (by omega)).trans H_this
  have HT3 : tx h3 1 (T.1, T.2.1, T.2.2.1, T.2.2.2.1, v) := ⟨by rw [← hh3]; exact eb_up_s, f2, (k3 2 (by omega)).trans H_tw2, hf2⟩
  have HX3 : xo h3 := HX.kept (kp3 0 (by omega)) (kp3 41 (by omega))
  have HN3 : lyany h3 46 := now.any (HN.kept (fun x a b => kp3 x (by omega)))
  have HS3 : sur h3 T sees := HS.kept (fun x a b => kp3 x (by omega))
  refine V_aload_n eX9_free_19 rfl rfl ?_
  refine V_cvg eX9_free_20 (c_X9_layAnew (T := (T.1, T.2.1, T.2.2.1, T.2.2.2.1, v)) HX3 HT3 hTX HN3 HS3.any) H_this rfl rfl (Nat.le_of_ble_eq_true rfl) ⟨rfl, rfl⟩ ⟨Nat.zero_le _, Nat.zero_le _⟩ (fun h4 ⟨⟨HN4, HS4⟩, hfr4⟩ => ?_)
  show eb_V _ _ 23 _ [] _ _ _
  have H_this : h4 0 = _ := (hfr4 0 (by omega) (by omega)).trans H_this
  obtain ⟨ro4, pl4, to4, ow4, lb4, HL4, hpl4, hto4, hr4⟩ := id HN4
  have H_this_now := HL4.1
  have et : to4 T.1.length = dp_t (lt_c (txq (T.1, T.2.1, T.2.2.1, T.2.2.2.1, v))) T.1.length := hto4 T.1.length (Nat.le_refl _)
  refine V_aload_n eX9_free_23 rfl rfl ?_
  refine V_getf eX9_free_24 H_this rfl ?_
  refine V_cvi eX9_free_27 (c_X3_lastTotal HL4 hN) H_this_now rfl rfl (Nat.le_of_ble_eq_true rfl) ⟨rfl, rfl⟩ ⟨Nat.zero_le _, Nat.zero_le _⟩ ?_
  rw [et]
  exact V_iret eX9_free_30 ⟨Nat.zero_le _, Nat.zero_le _⟩ rfl (rfl) (⟨rfl, rfl, XR.deed HX3 HT3 (HY.kept (fun x a b => kp3 x (by omega))) (HP2.kept (fun x a b => k3 x (by omega))) ((kp3 40 (by omega)).trans HD) (HB.kept (fun x a b => kp3 x (by omega))) (HL.kept (kp3 _ (by omega)) (fun x a b => kp3 x (by omega))) (HI0.kept (fun x a b => kp3 x (by omega))) (HI1.kept (fun x a b => kp3 x (by omega))) HN4 HS4 hfr4, fun k hk => (hfr4 k (by omega) (by omega)).trans (kp3 k (by omega))⟩)
end X9C
