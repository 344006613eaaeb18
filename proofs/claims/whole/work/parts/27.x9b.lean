/-! EvenBreaks: its calls -/
def F67 (h h' : eb_H) : Prop := ∀ k, 67 ≤ k → h' k = h k
abbrev txq (T : TX) : lt_Q := (T.1.length, tx_wf T.1, T.2.1, T.2.2.1, T.2.2.2.1, T.2.2.2.2)
section X9B
variable {n : Nat} {h : eb_H} {T : TX} {ty : List Nat} {fa : Int} {past : List TX} {seed : Int} {i0 i1 : Option (TX × Int)} {sees : List (Nat × Bool)} {book : List (Int × Int)}
/-- only what is asked by the way has changed -/
theorem XR.re {h' : eb_H} (HR : XR h T ty fa past seed i0 i1 sees book) (k1 : ag h h' 0 45) (k2 : ag h h' 61 66) (HN : now h' T) (HL : lyany h' 52) (HS : sur h' T sees) : XR h' T ty fa past seed i0 i1 sees book := by
  obtain ⟨HX, HT, HY, HP, HD, HB, -, -, -, HI0, HI1⟩ := HR
  exact ⟨HX.kept (k1 _ (by omega) (by omega)) (k1 _ (by omega) (by omega)), HT.kept (fun x a b => k1 x (by omega) (by omega)), HY.kept (fun x a b => k1 x (by omega) (by omega)), HP.kept (fun x a b => k1 x (by omega) (by omega)), (k1 _ (by omega) (by omega)).trans HD, HB.kept (fun x a b => k1 x (by omega) (by omega)), HN, HL, HS, HI0.kept (fun x a b => k2 x (by omega) (by omega)), HI1.kept (fun x a b => k2 x (by omega) (by omega))⟩
theorem F67.rf : F67 h h := fun _ _ => rfl
/-- a deed's end: the text is laid anew -/
theorem XR.deed {h1 h' : eb_H} {T' : TX} {past' : List TX} {seed' : Int} (HX : xo h1) (HT : tx h1 1 T') (HY : ty_at h1 3 ty fa) (HP : pa_at h1 6 past') (HD : h1 40 = dr_obj seed') (HB : bk_at h1 42 book) (HL : lyany h1 52) (HI0 : im h1 61 i0) (HI1 : im h1 64 i1) (HN : now h' T') (HS : ∃ tb bf, su_at h' 58 0 sees tb bf) (hk : ∀ k, (k < 46 ∨ 51 < k) → k ≠ 58 → h' k = h1 k) : XR h' T' ty fa past' seed' i0 i1 sees book := by
  obtain ⟨tb, bf, HS⟩ := HS
  exact ⟨HX.kept (hk _ (by omega) (by omega)) (hk _ (by omega) (by omega)), HT.kept (fun x a b => hk x (by omega) (by omega)), HY.kept (fun x a b => hk x (by omega) (by omega)), HP.kept (fun x a b => hk x (by omega) (by omega)), (hk _ (by omega) (by omega)).trans HD, HB.kept (fun x a b => hk x (by omega) (by omega)), HN, HL.kept (hk _ (by omega) (by omega)) (fun x a b => hk x (by omega) (by omega)), ⟨0, tb, bf, HS, Or.inl rfl⟩, HI0.kept (fun x a b => hk x (by omega) (by omega)), HI1.kept (fun x a b => hk x (by omega) (by omega))⟩
theorem x9_feed_out {c : Int} (HR : XR h T ty fa past seed i0 i1 sees book) (hr : -2147483648 ≤ c ∧ c ≤ 2147483647) (hc : c < 0 ∨ 255 < c) : eb_T mX9_feed [.ref 0, .int (eb_I c)] n h (eb_G (some (.int (eb_I (-1000000002)))) n (fun h' => XR h' T ty fa past seed i0 i1 sees book ∧ F67 h h')) := by
  refine eb_T.of (by decide +kernel) (Nat.le_of_ble_eq_true rfl) ?_
  show eb_V _ _ 0 [.ref 0, .int (eb_I c)] [] (n, 0, 0) h _
  refine V_iload_n eX9_feed_0 rfl rfl ?_
  refine V_if_lt (tgt := 11) eX9_feed_1 rfl (by omega) (fun c_1 => ?_) (fun c_1 => ?_)
  · refine V_ldc (a := -1000000002) eX9_feed_11 wd_376 (by decide) ?_
    exact V_iret eX9_feed_13 ⟨Nat.zero_le _, Nat.zero_le _⟩ rfl (rfl) (⟨rfl, rfl, HR, F67.rf⟩)
  · refine V_iload_n eX9_feed_4 rfl rfl ?_
    refine V_sipush eX9_feed_5 (by decide) ?_
    refine V_icmp_le (tgt := 14) eX9_feed_8 rfl (by omega) (fun c_8 => ?_) (fun c_8 => ?_)
    · exact absurd c_8 (by omega)
    · refine V_ldc (a := -1000000002) eX9_feed_11 wd_376 (by decide) ?_
      exact V_iret eX9_feed_13 ⟨Nat.zero_le _, Nat.zero_le _⟩ rfl (rfl) (⟨rfl, rfl, HR, F67.rf⟩)
theorem x9_feed_in {c : Nat} (HR : XR h T ty fa past seed i0 i1 sees book) (HO : SOK T ty fa past seed i0 i1 sees book) (hc : c ≤ 255) : eb_T mX9_feed [.ref 0, .int (eb_I (c : Int))] n h (eb_G (some (.int (eb_I (if 240 ≤ ty.length then -1000000004 else (ty.length : Int) + 1)))) n (fun h' => XR h' T (if 240 ≤ ty.length then ty else ty ++ [c]) fa past seed i0 i1 sees book ∧ F67 h h')) := by
  refine eb_T.of (by decide +kernel) (Nat.le_of_ble_eq_true rfl) ?_
  show eb_V _ _ 0 [.ref 0, .int (eb_I (c : Int))] [] (n, 0, 0) h _
  obtain ⟨HX, HT, HY, HP, HD, HB, HN, HL, HS, HI0, HI1⟩ := HR
  have H_this := HX.1
  have HY' := HY
  obtain ⟨wc, lf, g, H_this_typed, -⟩ := HY
  refine V_iload_n eX9_feed_0 rfl rfl ?_
  refine V_if_lt (tgt := 11) eX9_feed_1 rfl (by omega) (fun c_1 => ?_) (fun c_1 => ?_)
  · exact absurd c_1 (by omega)
  · refine V_iload_n eX9_feed_4 rfl rfl ?_
    refine V_sipush eX9_feed_5 (by decide) ?_
    refine V_icmp_le (tgt := 14) eX9_feed_8 rfl (by omega) (fun c_8 => ?_) (fun c_8 => ?_)
    · refine V_aload_n eX9_feed_14 rfl rfl ?_
      refine V_getf eX9_feed_15 H_this rfl ?_
      refine V_iload_n eX9_feed_18 rfl rfl ?_
      refine V_cvg eX9_feed_19 (c_X8_add HY' HO.2.1.1 hc) H_this_typed rfl rfl (Nat.le_of_ble_eq_true rfl) ⟨rfl, rfl⟩ ⟨Nat.zero_le _, Nat.zero_le _⟩ (fun h1 ⟨HY1, hfr⟩ => ?_)
      show eb_V _ _ 22 _ [.int (eb_I (if 240 ≤ ty.length then -1000000004 else (ty.length : Int) + 1))] _ _ _
      exact V_iret eX9_feed_22 ⟨Nat.zero_le _, Nat.zero_le _⟩ rfl (rfl) (⟨rfl, rfl, ⟨HX.kept (hfr _ (by omega)) (hfr _ (by omega)), HT.kept (fun x a b => hfr x (by omega)), HY1, HP.kept (fun x a b => hfr x (by omega)), (hfr _ (by omega)).trans HD, HB.kept (fun x a b => hfr x (by omega)), HN.kept (fun x a b => hfr x (by omega)), HL.kept (hfr _ (by omega)) (fun x a b => hfr x (by omega)), HS.kept (fun x a b => hfr x (by omega)), HI0.kept (fun x a b => hfr x (by omega)), HI1.kept (fun x a b => hfr x (by omega))⟩, fun k hk => hfr k (by omega)⟩)
    · exact absurd (by omega) c_8
theorem x9_fault (HR : XR h T ty fa past seed i0 i1 sees book) : eb_T mX9_fault [.ref 0] n h (eb_G (some (.int (eb_I fa))) n (fun h' => XR h' T ty fa past seed i0 i1 sees book ∧ F67 h h')) := by
  refine eb_T.of (by decide +kernel) (Nat.le_of_ble_eq_true rfl) ?_
  show eb_V _ _ 0 [.ref 0] [] (n, 0, 0) h _
  have H_this := HR.1.1
  obtain ⟨wc, lf, g, H_this_typed, -⟩ := HR.2.2.1
  refine V_aload_n eX9_fault_0 rfl rfl ?_
  refine V_getf eX9_fault_1 H_this rfl ?_
  refine V_getf eX9_fault_4 H_this_typed rfl ?_
  exact V_iret eX9_fault_7 ⟨Nat.zero_le _, Nat.zero_le _⟩ rfl (rfl) (⟨rfl, rfl, HR, F67.rf⟩)
theorem x9_type_bad (HR : XR h T ty fa past seed i0 i1 sees book) (HO : SOK T ty fa past seed i0 i1 sees book) (hb : (rd ty 0 [] 0).1 ≠ 0) : eb_T mX9_type [.ref 0] n h (eb_G (some (.int (eb_I (-10 - ((rd ty 0 [] 0).1 : Int))))) n (fun h' => XR h' T [] (rd ty 0 [] 0).2.1 past seed i0 i1 sees book ∧ F67 h h')) := by
  refine eb_T.of (by decide +kernel) (Nat.le_of_ble_eq_true rfl) ?_
  show eb_V _ _ 0 [.ref 0, eb_no] [] (n, 0, 0) h _
  obtain ⟨HX, HT, HY, HP, HD, HB, HN, HL, HS, HI0, HI1⟩ := HR
  have H_this := HX.1
  have Tr := c_X8_read (n := n) HY HO.2.1.1 HO.2.1.2
  have hok := rd_ok ty 0 [] 0 rd_inv_0
  generalize rd ty 0 [] 0 = R at Tr hok hb ⊢
  obtain ⟨wc0, lf0, g0, H_this_typed, -⟩ := HY
  have hf3 := hok.2.1
  refine V_aload_n eX9_type_0 rfl rfl ?_
  refine V_getf eX9_type_1 H_this rfl ?_
  refine V_cvg eX9_type_4 (Tr) H_this_typed rfl rfl (Nat.le_of_ble_eq_true rfl) ⟨rfl, rfl⟩ ⟨Nat.zero_le _, Nat.zero_le _⟩ (fun h1 ⟨HR1, hfr⟩ => ?_)
  show eb_V _ _ 7 _ [.int (eb_I (R.1 : Nat))] _ _ _
  have HR1 : tyR h1 R := HR1
  refine V_istore_n eX9_type_7 rfl (Nat.le_of_ble_eq_true rfl) rfl (eb_sS eb_s0) ?_
  refine V_iload_n eX9_type_8 rfl rfl ?_
  refine V_if_eq (tgt := 17) eX9_type_9 rfl (by omega) (fun c_9 => ?_) (fun c_9 => ?_)
  · exact absurd c_9 (by omega)
  · refine V_bipush eX9_type_12 (by decide) ?_
    refine V_iload_n eX9_type_14 rfl rfl ?_
    refine V_isub eX9_type_15 ?_
    exact V_iret eX9_type_16 ⟨Nat.zero_le _, Nat.zero_le _⟩ rfl (rfl) (⟨rfl, rfl, ⟨HX.kept (hfr _ (by omega)) (hfr _ (by omega)), HT.kept (fun x a b => hfr x (by omega)), HR1.at, HP.kept (fun x a b => hfr x (by omega)), (hfr _ (by omega)).trans HD, HB.kept (fun x a b => hfr x (by omega)), HN.kept (fun x a b => hfr x (by omega)), HL.kept (hfr _ (by omega)) (fun x a b => hfr x (by omega)), HS.kept (fun x a b => hfr x (by omega)), HI0.kept (fun x a b => hfr x (by omega)), HI1.kept (fun x a b => hfr x (by omega))⟩, fun k hk => hfr k (by omega)⟩)
theorem rd_tx {R : Nat × Int × List (List Nat)} {T : TX} (HO : TX_ok T) (h : rd_inv R.2.2 0) : TX_ok (R.2.2, T.2) := ⟨⟨h.1, HO.1.2⟩, h.2.2.1⟩
theorem x9_type_ok (HR : XR h T ty fa past seed i0 i1 sees book) (HO : SOK T ty fa past seed i0 i1 sees book) (hb : (rd ty 0 [] 0).1 = 0) : eb_T mX9_type [.ref 0] n h (eb_G (some (.int (eb_I ((rd ty 0 [] 0).2.2.length : Int)))) n (fun h' => XR h' ((rd ty 0 [] 0).2.2, T.2) [] (rd ty 0 [] 0).2.1 ((T :: past).take 16) seed i0 i1 sees book ∧ F67 h h')) := by
  refine eb_T.of (by decide +kernel) (Nat.le_of_ble_eq_true rfl) ?_
  show eb_V _ _ 0 [.ref 0, eb_no] [] (n, 0, 0) h _
  obtain ⟨HX, HT, HY, HP, HD, HB, HN, HL, HS, HI0, HI1⟩ := HR
  have H_this := HX.1
  have Tr := c_X8_read (n := n) HY HO.2.1.1 HO.2.1.2
  have hok := rd_ok ty 0 [] 0 rd_inv_0
  generalize rd ty 0 [] 0 = R at Tr hok hb ⊢
  obtain ⟨wc0, lf0, g0, H_this_typed, -⟩ := HY
  have hTX := rd_tx HO.1 hok.1
  have hl : R.2.2.length ≤ 40 := hok.1.1
  refine V_aload_n eX9_type_0 rfl rfl ?_
  refine V_getf eX9_type_1 H_this rfl ?_
  refine V_cvg eX9_type_4 (Tr) H_this_typed rfl rfl (Nat.le_of_ble_eq_true rfl) ⟨rfl, rfl⟩ ⟨Nat.zero_le _, Nat.zero_le _⟩ (fun h1 ⟨HR1, hfr⟩ => ?_)
  show eb_V _ _ 7 _ [.int (eb_I (R.1 : Nat))] _ _ _
  have HR1 : tyR h1 R := HR1
  have H_this : h1 0 = _ := (hfr 0 (by omega)).trans H_this
  have HT1 : tx h1 1 T := HT.kept (fun x a b => hfr x (by omega))
  have HP1 : pa_at h1 6 past := HP.kept (fun x a b => hfr x (by omega))
  obtain ⟨pnx, pf, H_this_past, pr⟩ := id HP1
  refine V_istore_n eX9_type_7 rfl (Nat.le_of_ble_eq_true rfl) rfl (eb_sS eb_s0) ?_
  refine V_iload_n eX9_type_8 rfl rfl ?_
  refine V_if_eq (tgt := 17) eX9_type_9 rfl (by omega) (fun c_9 => ?_) (fun c_9 => ?_)
  · refine V_aload_n eX9_type_17 rfl rfl ?_
    refine V_getf eX9_type_18 H_this rfl ?_
    refine V_aload_n eX9_type_21 rfl rfl ?_
    refine V_getf eX9_type_22 H_this rfl ?_
    refine V_cvg eX9_type_25 (c_X4_remember HP1 HT1 HO.1 (by omega)) H_this_past rfl rfl (Nat.le_of_ble_eq_true rfl) ⟨rfl, rfl⟩ ⟨Nat.zero_le _, Nat.zero_le _⟩ (fun h2 ⟨HP2, hfr2⟩ => ?_)
    show eb_V _ _ 28 _ [] _ _ _
    have kp2 : ∀ k, (k < 3 ∨ 39 < k) → h2 k = h k := fun k hk => (hfr2 k (by omega)).trans (hfr k (by omega))
    have H_this : h2 0 = _ := (hfr2 0 (by omega)).trans H_this
    have HR2 : tyR h2 R := HR1.kept (fun x a b => hfr2 x (by omega))
    obtain ⟨H_this_text, ft2, H_tw, hft2⟩ : tx h2 1 T := HT1.kept (fun x a b => hfr2 x (by omega))
    obtain ⟨wc, lf, g, H_this_typed, K1, H_this_typed_words, K3⟩ := id HR2
    obtain ⟨hwc, hg⟩ := K3 hb
    subst hwc
    refine V_aload_n eX9_type_28 rfl rfl ?_
    refine V_getf eX9_type_29 H_this rfl ?_
    refine V_aload_n eX9_type_32 rfl rfl ?_
    refine V_getf eX9_type_33 H_this rfl ?_
    refine V_getf eX9_type_36 H_this_typed rfl ?_
    refine V_aload_n eX9_type_39 rfl rfl ?_
    refine V_getf eX9_type_40 H_this rfl ?_
    refine V_getf eX9_type_43 H_this_typed rfl ?_
    refine V_cvg eX9_type_46 (c_X7_setWords (ws := R.2.2) H_this_text H_tw H_this_typed_words hg hl) H_this_text rfl rfl (Nat.le_of_ble_eq_true rfl) ⟨rfl, rfl⟩ ⟨Nat.zero_le _, Nat.zero_le _⟩ (fun h3 ⟨HT3, hfr3⟩ => ?_)
    show eb_V _ _ 49 _ [] _ _ _
    have kp3 : ∀ k, (k < 1 ∨ (2 < k ∧ k < 3) ∨ 39 < k) → h3 k = h k := fun k hk => (hfr3 k (by omega)).trans (kp2 k (by omega))
    have H_this : h3 0 = _ := (hfr3 0 (by omega)).trans H_this
    have HX3 : xo h3 := HX.kept (kp3 0 (by omega)) (kp3 41 (by omega))
    have HN3 : lyany h3 46 := now.any (HN.kept (fun x a b => kp3 x (by omega)))
    have HS3 : sur h3 T sees := HS.kept (fun x a b => kp3 x (by omega))
    refine V_aload_n eX9_type_49 rfl rfl ?_
    refine V_cvg eX9_type_50 (c_X9_layAnew (T := (R.2.2, T.2)) HX3 HT3 hTX HN3 HS3.any) H_this rfl rfl (Nat.le_of_ble_eq_true rfl) ⟨rfl, rfl⟩ ⟨Nat.zero_le _, Nat.zero_le _⟩ (fun h4 ⟨⟨HN4, HS4⟩, hfr4⟩ => ?_)
    show eb_V _ _ 53 _ [] _ _ _
    have H_this : h4 0 = _ := (hfr4 0 (by omega) (by omega)).trans H_this
    have H_this_text : h4 1 = _ := (hfr4 1 (by omega) (by omega)).trans HT3.1
    refine V_aload_n eX9_type_53 rfl rfl ?_
    refine V_getf eX9_type_54 H_this rfl ?_
    refine V_getf eX9_type_57 H_this_text rfl ?_
    exact V_iret eX9_type_60 ⟨Nat.zero_le _, Nat.zero_le _⟩ rfl (rfl) (⟨rfl, rfl, XR.deed HX3 HT3 ((HR2.kept (fun x a b => hfr3 x (by omega))).at) (HP2.kept (fun x a b => hfr3 x (by omega))) ((kp3 40 (by omega)).trans HD) (HB.kept (fun x a b => kp3 x (by omega))) (HL.kept (kp3 _ (by omega)) (fun x a b => kp3 x (by omega))) (HI0.kept (fun x a b => kp3 x (by omega))) (HI1.kept (fun x a b => kp3 x (by omega))) HN4 HS4 hfr4, fun k hk => (hfr4 k (by omega) (by omega)).trans (kp3 k (by omega))⟩)
  · exact absurd (by omega) c_9
end X9B
