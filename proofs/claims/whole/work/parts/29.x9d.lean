/-- so many draws, each a deed -/
def dr_N (T : TX) (past : List TX) (s : Int) : Nat → TX × List TX × Int
  | 0 => (T, past, s)
  | k + 1 => ((dr_1 (dr_N T past s k).1 (dr_N T past s k).2.2).1, ((dr_N T past s k).1 :: (dr_N T past s k).2.1).take 16, (dr_1 (dr_N T past s k).1 (dr_N T past s k).2.2).2)
theorem take16_ok {T : TX} {past : List TX} (h1 : TX_ok T) (h2 : ∀ T ∈ past, TX_ok T) : ((T :: past).take 16).length ≤ 16 ∧ ∀ x ∈ (T :: past).take 16, TX_ok x := by
  refine ⟨by simp; omega, fun x hx => ?_⟩
  rcases List.mem_cons.mp (List.mem_of_mem_take hx) with q | q
  · rw [q]; exact h1
  · exact h2 x q
theorem dr_N_ok {T : TX} {past : List TX} {s : Int} (h1 : TX_ok T) (h2 : past.length ≤ 16 ∧ ∀ T ∈ past, TX_ok T) (h3 : 0 ≤ s ∧ s ≤ 2147483647) : ∀ k, TX_ok (dr_N T past s k).1 ∧ ((dr_N T past s k).2.1.length ≤ 16 ∧ ∀ x ∈ (dr_N T past s k).2.1, TX_ok x) ∧ (0 ≤ (dr_N T past s k).2.2 ∧ (dr_N T past s k).2.2 ≤ 2147483647) := by
  intro k
  induction k with
  | zero => exact ⟨h1, h2, h3⟩
  | succ k ih =>
    have a := dr_1_ok ih.1 (dr_N T past s k).2.2
    exact ⟨a.1, take16_ok ih.1 ih.2.1.2, a.2⟩
section X9D
variable {n : Nat} {h : eb_H} {T : TX} {ty : List Nat} {fa : Int} {past : List TX} {seed : Int} {i0 i1 : Option (TX × Int)} {sees : List (Nat × Bool)} {book : List (Int × Int)}
theorem x9_drift_out {v : Int} (HR : XR h T ty fa past seed i0 i1 sees book) (hv : -2147483648 ≤ v ∧ v ≤ 2147483647) (hc : ¬ (1 ≤ v ∧ v ≤ 16)) : eb_T mX9_drift [.ref 0, .int (eb_I v)] n h (eb_G (some (.int (eb_I (-1000000002)))) n (fun h' => XR h' T ty fa past seed i0 i1 sees book ∧ F67 h h')) := by
  refine eb_T.of (by decide +kernel) (Nat.le_of_ble_eq_true rfl) ?_
  show eb_V _ _ 0 [.ref 0, .int (eb_I v), eb_no] [] (n, 0, 0) h _
  refine V_iload_n eX9_drift_0 rfl rfl ?_
  refine V_iconst eX9_drift_1 ?_
  refine V_icmp_lt (tgt := 11) eX9_drift_2 rfl (by omega) (fun c_2 => ?_) (fun c_2 => ?_)
  · refine V_ldc (a := -1000000002) eX9_drift_11 wd_376 (by decide) ?_
    exact V_iret eX9_drift_13 ⟨Nat.zero_le _, Nat.zero_le _⟩ rfl (rfl) (⟨rfl, rfl, HR, F67.rf⟩)
  · refine V_iload_n eX9_drift_5 rfl rfl ?_
    refine V_bipush eX9_drift_6 (by decide) ?_
    refine V_icmp_le (tgt := 14) eX9_drift_8 rfl (by omega) (fun c_8 => ?_) (fun c_8 => ?_)
    · exact absurd c_8 (by omega)
    · refine V_ldc (a := -1000000002) eX9_drift_11 wd_376 (by decide) ?_
      exact V_iret eX9_drift_13 ⟨Nat.zero_le _, Nat.zero_le _⟩ rfl (rfl) (⟨rfl, rfl, HR, F67.rf⟩)
theorem x9_drift_ok {m : Nat} (HR : XR h T ty fa past seed i0 i1 sees book) (HO : SOK T ty fa past seed i0 i1 sees book) (hm : 1 ≤ m ∧ m ≤ 16) : eb_T mX9_drift [.ref 0, .int (eb_I (m : Int))] n h (eb_G (some (.int (eb_I ((dr_N T past seed m).1.1.length : Int)))) n (fun h' => XR h' (dr_N T past seed m).1 ty fa (dr_N T past seed m).2.1 (dr_N T past seed m).2.2 i0 i1 sees book ∧ F67 h h')) := by
  refine eb_T.of (by decide +kernel) (Nat.le_of_ble_eq_true rfl) ?_
  show eb_V _ _ 0 [.ref 0, .int (eb_I (m : Int)), eb_no] [] (n, 0, 0) h _
  obtain ⟨HX, HT, HY, HP, HD, HB, HN, HL, HS, HI0, HI1⟩ := HR
  have dok := dr_N_ok HO.1 HO.2.2.2.1 HO.2.2.2.2.1
  have loop : ∀ (d i : Nat) (h1 : eb_H), i + d = m → tx h1 1 (dr_N T past seed i).1 → pa_at h1 6 (dr_N T past seed i).2.1 → h1 40 = dr_obj (dr_N T past seed i).2.2 → (∀ k, (k < 1 ∨ (2 < k ∧ k < 6) ∨ 39 < k) → k ≠ 40 → h1 k = h k) → eb_V mX9_drift (fun _ _ _ => True) 16 [.ref 0, .int (eb_I (m : Int)), .int (eb_I (i : Int))] [] (n, 0, 0) h1 (eb_R mX9_drift (eb_G (some (.int (eb_I ((dr_N T past seed m).1.1.length : Int)))) n (fun h' => XR h' (dr_N T past seed m).1 ty fa (dr_N T past seed m).2.1 (dr_N T past seed m).2.2 i0 i1 sees book ∧ F67 h h'))) := by
    intro d
    induction d with
    | zero =>
      intro i h3 hi HT3 HP3 HD3 kp3
      have : i = m := by omega
      subst this
      have hTX := (dok i).1
      have HX3 : xo h3 := HX.kept (kp3 0 (by omega) (by omega)) (kp3 41 (by omega) (by omega))
      have H_this := HX3.1
      have HN3 : lyany h3 46 := now.any (HN.kept (fun x a b => kp3 x (by omega) (by omega)))
      have HS3 : sur h3 T sees := HS.kept (fun x a b => kp3 x (by omega) (by omega))
      refine V_iload_n eX9_drift_16 rfl rfl ?_
      refine V_iload_n eX9_drift_17 rfl rfl ?_
      refine V_icmp_ge (tgt := 42) eX9_drift_18 rfl (by omega) (fun c_18 => ?_) (fun c_18 => ?_)
      · refine V_aload_n eX9_drift_42 rfl rfl ?_
        refine V_cvg eX9_drift_43 (c_X9_layAnew HX3 HT3 hTX HN3 HS3.any) H_this rfl rfl (Nat.le_of_ble_eq_true rfl) ⟨rfl, rfl⟩ ⟨Nat.zero_le _, Nat.zero_le _⟩ (fun h4 ⟨⟨HN4, HS4⟩, hfr4⟩ => ?_)
        show eb_V _ _ 46 _ [] _ _ _
        have H_this : h4 0 = _ := (hfr4 0 (by omega) (by omega)).trans H_this
        have H_this_text : h4 1 = _ := (hfr4 1 (by omega) (by omega)).trans HT3.1
        refine V_aload_n eX9_drift_46 rfl rfl ?_
        refine V_getf eX9_drift_47 H_this rfl ?_
        refine V_getf eX9_drift_50 H_this_text rfl ?_
        exact V_iret eX9_drift_53 ⟨Nat.zero_le _, Nat.zero_le _⟩ rfl (rfl) (⟨rfl, rfl, XR.deed HX3 HT3 (HY.kept (fun x a b => kp3 x (by omega) (by omega))) HP3 HD3 (HB.kept (fun x a b => kp3 x (by omega) (by omega))) (HL.kept (kp3 _ (by omega) (by omega)) (fun x a b => kp3 x (by omega) (by omega))) (HI0.kept (fun x a b => kp3 x (by omega) (by omega))) (HI1.kept (fun x a b => kp3 x (by omega) (by omega))) HN4 HS4 hfr4, fun k hk => (hfr4 k (by omega) (by omega)).trans (kp3 k (by omega) (by omega))⟩)
      · exact absurd (by omega) c_18
    | succ d ih =>
      intro i h1 hi HT1 HP1 HD1 kp1
      obtain ⟨d1, d2, d3⟩ := dok i
      have HX1 : xo h1 := HX.kept (kp1 0 (by omega) (by omega)) (kp1 41 (by omega) (by omega))
      have H_this := HX1.1
      obtain ⟨pnx, pf, H_this_past, pr⟩ := id HP1
      refine V_iload_n eX9_drift_16 rfl rfl ?_
      refine V_iload_n eX9_drift_17 rfl rfl ?_
      refine V_icmp_ge (tgt := 42) eX9_drift_18 rfl (by omega) (fun c_18 => ?_) (fun c_18 => ?_)
      · exact absurd c_18 (by omega)
      · refine V_aload_n eX9_drift_21 rfl rfl ?_
        refine V_getf eX9_drift_22 H_this rfl ?_
        refine V_aload_n eX9_drift_25 rfl rfl ?_
        refine V_getf eX9_drift_26 H_this rfl ?_
        refine V_cvg eX9_drift_29 (c_X4_remember HP1 HT1 d1 (by omega)) H_this_past rfl rfl (Nat.le_of_ble_eq_true rfl) ⟨rfl, rfl⟩ ⟨Nat.zero_le _, Nat.zero_le _⟩ (fun h2 ⟨HP2, hfr2⟩ => ?_)
        show eb_V _ _ 32 _ [] _ _ _
        have H_this : h2 0 = _ := (hfr2 0 (by omega)).trans H_this
        have HT2 : tx h2 1 _ := HT1.kept (fun x a b => hfr2 x (by omega))
        have HX2 : xo h2 := HX1.kept (hfr2 0 (by omega)) (hfr2 41 (by omega))
        refine V_aload_n eX9_drift_32 rfl rfl ?_
        refine V_cvg eX9_drift_33 (c_X9_driftOnce HX2 HT2 d1 ((hfr2 40 (by omega)).trans HD1) d3) H_this rfl rfl (Nat.le_of_ble_eq_true rfl) ⟨rfl, rfl⟩ ⟨Nat.zero_le _, Nat.zero_le _⟩ (fun h3 ⟨⟨HT3, HD3⟩, hfr3⟩ => ?_)
        show eb_V _ _ 36 _ [] _ _ _
        refine V_iinc eX9_drift_36 rfl rfl (eb_sS (eb_sS eb_s0)) ?_
        refine V_goto (tgt := 16) eX9_drift_39 rfl ?_
        exact ih (i + 1) h3 (by omega) HT3 (HP2.kept (fun x a b => hfr3 x (by omega) (by omega))) HD3 (fun k a b => ((hfr3 k (by omega) b).trans (hfr2 k (by omega))).trans (kp1 k a b))
  refine V_iload_n eX9_drift_0 rfl rfl ?_
  refine V_iconst eX9_drift_1 ?_
  refine V_icmp_lt (tgt := 11) eX9_drift_2 rfl (by omega) (fun c_2 => ?_) (fun c_2 => ?_)
  · exact absurd c_2 (by omega)
  · refine V_iload_n eX9_drift_5 rfl rfl ?_
    refine V_bipush eX9_drift_6 (by decide) ?_
    refine V_icmp_le (tgt := 14) eX9_drift_8 rfl (by omega) (fun c_8 => ?_) (fun c_8 => ?_)
    · refine V_iconst eX9_drift_14 ?_
      refine V_istore_n eX9_drift_15 rfl (Nat.le_of_ble_eq_true rfl) rfl (eb_sS (eb_sS eb_s0)) ?_
      exact loop m 0 h (by omega) HT HP HD (fun k _ _ => rfl)
    · exact absurd (by omega) c_8
theorem x9_undo_out {v : Int} (HR : XR h T ty fa past seed i0 i1 sees book) (hv : -2147483648 ≤ v ∧ v ≤ 2147483647) (hc : ¬ (1 ≤ v ∧ v ≤ 16)) : eb_T mX9_undo [.ref 0, .int (eb_I v)] n h (eb_G (some (.int (eb_I (-1000000002)))) n (fun h' => XR h' T ty fa past seed i0 i1 sees book ∧ F67 h h')) := by
  refine eb_T.of (by decide +kernel) (Nat.le_of_ble_eq_true rfl) ?_
  show eb_V _ _ 0 [.ref 0, .int (eb_I v)] [] (n, 0, 0) h _
  refine V_iload_n eX9_undo_0 rfl rfl ?_
  refine V_iconst eX9_undo_1 ?_
  refine V_icmp_lt (tgt := 11) eX9_undo_2 rfl (by omega) (fun c_2 => ?_) (fun c_2 => ?_)
  · refine V_ldc (a := -1000000002) eX9_undo_11 wd_376 (by decide) ?_
    exact V_iret eX9_undo_13 ⟨Nat.zero_le _, Nat.zero_le _⟩ rfl (rfl) (⟨rfl, rfl, HR, F67.rf⟩)
  · refine V_iload_n eX9_undo_5 rfl rfl ?_
    refine V_bipush eX9_undo_6 (by decide) ?_
    refine V_icmp_le (tgt := 14) eX9_undo_8 rfl (by omega) (fun c_8 => ?_) (fun c_8 => ?_)
    · exact absurd c_8 (by omega)
    · refine V_ldc (a := -1000000002) eX9_undo_11 wd_376 (by decide) ?_
      exact V_iret eX9_undo_13 ⟨Nat.zero_le _, Nat.zero_le _⟩ rfl (rfl) (⟨rfl, rfl, HR, F67.rf⟩)
theorem x9_undo_not {m : Nat} (HR : XR h T ty fa past seed i0 i1 sees book) (HO : SOK T ty fa past seed i0 i1 sees book) (hm : 1 ≤ m ∧ m ≤ 16) (hc : past.length < m) : eb_T mX9_undo [.ref 0, .int (eb_I (m : Int))] n h (eb_G (some (.int (eb_I (-1000000003)))) n (fun h' => XR h' T ty fa past seed i0 i1 sees book ∧ F67 h h')) := by
  refine eb_T.of (by decide +kernel) (Nat.le_of_ble_eq_true rfl) ?_
  show eb_V _ _ 0 [.ref 0, .int (eb_I (m : Int))] [] (n, 0, 0) h _
  have H_this := HR.1.1
  obtain ⟨pnx, pf, H_this_past, pr⟩ := HR.2.2.2.1
  have hpl := HO.2.2.2.1.1
  refine V_iload_n eX9_undo_0 rfl rfl ?_
  refine V_iconst eX9_undo_1 ?_
  refine V_icmp_lt (tgt := 11) eX9_undo_2 rfl (by omega) (fun c_2 => ?_) (fun c_2 => ?_)
  · exact absurd c_2 (by omega)
  · refine V_iload_n eX9_undo_5 rfl rfl ?_
    refine V_bipush eX9_undo_6 (by decide) ?_
    refine V_icmp_le (tgt := 14) eX9_undo_8 rfl (by omega) (fun c_8 => ?_) (fun c_8 => ?_)
    · refine V_iload_n eX9_undo_14 rfl rfl ?_
      refine V_aload_n eX9_undo_15 rfl rfl ?_
      refine V_getf eX9_undo_16 H_this rfl ?_
      refine V_getf eX9_undo_19 H_this_past rfl ?_
      refine V_icmp_le (tgt := 28) eX9_undo_22 rfl (by omega) (fun c_22 => ?_) (fun c_22 => ?_)
      · exact absurd c_22 (by omega)
      · refine V_ldc (a := -1000000003) eX9_undo_25 wd_559 (by decide) ?_
        exact V_iret eX9_undo_27 ⟨Nat.zero_le _, Nat.zero_le _⟩ rfl (rfl) (⟨rfl, rfl, HR, F67.rf⟩)
    · exact absurd (by omega) c_8
theorem x9_undo_ok {m : Nat} (HR : XR h T ty fa past seed i0 i1 sees book) (HO : SOK T ty fa past seed i0 i1 sees book) (hm : 1 ≤ m ∧ m ≤ 16) (hc : m ≤ past.length) : eb_T mX9_undo [.ref 0, .int (eb_I (m : Int))] n h (eb_G (some (.int (eb_I ((past[m - 1]'(by omega)).1.length : Int)))) n (fun h' => XR h' (past[m - 1]'(by omega)) ty fa (past.drop m) seed i0 i1 sees book ∧ F67 h h')) := by
  refine eb_T.of (by decide +kernel) (Nat.le_of_ble_eq_true rfl) ?_
  show eb_V _ _ 0 [.ref 0, .int (eb_I (m : Int))] [] (n, 0, 0) h _
  obtain ⟨HX, HT, HY, HP, HD, HB, HN, HL, HS, HI0, HI1⟩ := HR
  have H_this := HX.1
  have hpl := HO.2.2.2.1.1
  have hTX := HO.2.2.2.1.2 _ (List.getElem_mem (show m - 1 < past.length by omega))
  obtain ⟨pnx, pf, H_this_past, pr⟩ := id HP
  refine V_iload_n eX9_undo_0 rfl rfl ?_
  refine V_iconst eX9_undo_1 ?_
  refine V_icmp_lt (tgt := 11) eX9_undo_2 rfl (by omega) (fun c_2 => ?_) (fun c_2 => ?_)
  · exact absurd c_2 (by omega)
  · refine V_iload_n eX9_undo_5 rfl rfl ?_
    refine V_bipush eX9_undo_6 (by decide) ?_
    refine V_icmp_le (tgt := 14) eX9_undo_8 rfl (by omega) (fun c_8 => ?_) (fun c_8 => ?_)
    · refine V_iload_n eX9_undo_14 rfl rfl ?_
      refine V_aload_n eX9_undo_15 rfl rfl ?_
      refine V_getf eX9_undo_16 H_this rfl ?_
      refine V_getf eX9_undo_19 H_this_past rfl ?_
      refine V_icmp_le (tgt := 28) eX9_undo_22 rfl (by omega) (fun c_22 => ?_) (fun c_22 => ?_)
      · refine V_aload_n eX9_undo_28 rfl rfl ?_
        refine V_getf eX9_undo_29 H_this rfl ?_
        refine V_iload_n eX9_undo_32 rfl rfl ?_
        refine V_aload_n eX9_undo_33 rfl rfl ?_
        refine V_getf eX9_undo_34 H_this rfl ?_
        refine V_cvg eX9_undo_37 (c_X4_giveBack HP (tx_at.any HT) HO.2.2.2.1.2 (by omega) (by omega) hc) H_this_past rfl rfl (Nat.le_of_ble_eq_true rfl) ⟨rfl, rfl⟩ ⟨Nat.zero_le _, Nat.zero_le _⟩ (fun h3 ⟨⟨HT3, HP3⟩, hfr3⟩ => ?_)
        show eb_V _ _ 40 _ [] _ _ _
        have kp3 : ∀ k, (k < 1 ∨ (2 < k ∧ k < 6) ∨ 39 < k) → h3 k = h k := fun k hk => hfr3 k (by omega)
        have H_this : h3 0 = _ := (kp3 0 (by omega)).trans H_this
        have HX3 : xo h3 := HX.kept (kp3 0 (by omega)) (kp3 41 (by omega))
        have HN3 : lyany h3 46 := now.any (HN.kept (fun x a b => kp3 x (by omega)))
        have HS3 : sur h3 T sees := HS.kept (fun x a b => kp3 x (by omega))
        refine V_aload_n eX9_undo_40 rfl rfl ?_
        refine V_cvg eX9_undo_41 (c_X9_layAnew HX3 HT3 hTX HN3 HS3.any) H_this rfl rfl (Nat.le_of_ble_eq_true rfl) ⟨rfl, rfl⟩ ⟨Nat.zero_le _, Nat.zero_le _⟩ (fun h4 ⟨⟨HN4, HS4⟩, hfr4⟩ => ?_)
        show eb_V _ _ 44 _ [] _ _ _
        have H_this : h4 0 = _ := (hfr4 0 (by omega) (by omega)).trans H_this
        have H_this_text : h4 1 = _ := (hfr4 1 (by omega) (by omega)).trans HT3.1
        refine V_aload_n eX9_undo_44 rfl rfl ?_
        refine V_getf eX9_undo_45 H_this rfl ?_
        refine V_getf eX9_undo_48 H_this_text rfl ?_
        exact V_iret eX9_undo_51 ⟨Nat.zero_le _, Nat.zero_le _⟩ rfl (rfl) (⟨rfl, rfl, XR.deed HX3 HT3 (HY.kept (fun x a b => kp3 x (by omega))) HP3 ((kp3 40 (by omega)).trans HD) (HB.kept (fun x a b => kp3 x (by omega))) (HL.kept (kp3 _ (by omega)) (fun x a b => kp3 x (by omega))) (HI0.kept (fun x a b => kp3 x (by omega))) (HI1.kept (fun x a b => kp3 x (by omega))) HN4 HS4 hfr4, fun k hk => (hfr4 k (by omega) (by omega)).trans (kp3 k (by omega))⟩)
      · exact absurd (by omega) c_22
    · exact absurd (by omega) c_8
theorem x9_seed_out {v : Int} (HR : XR h T ty fa past seed i0 i1 sees book) (hv : -2147483648 ≤ v ∧ v ≤ 2147483647) (hc : v < 0) : eb_T mX9_seed [.ref 0, .int (eb_I v)] n h (eb_G (some (.int (eb_I (-1000000002)))) n (fun h' => XR h' T ty fa past seed i0 i1 sees book ∧ F67 h h')) := by
  refine eb_T.of (by decide +kernel) (Nat.le_of_ble_eq_true rfl) ?_
  show eb_V _ _ 0 [.ref 0, .int (eb_I v), eb_no] [] (n, 0, 0) h _
  refine V_iload_n eX9_seed_0 rfl rfl ?_
  refine V_if_ge (tgt := 7) eX9_seed_1 rfl (by omega) (fun c_1 => ?_) (fun c_1 => ?_)
  · exact absurd c_1 (by omega)
  · refine V_ldc (a := -1000000002) eX9_seed_4 wd_376 (by decide) ?_
    exact V_iret eX9_seed_6 ⟨Nat.zero_le _, Nat.zero_le _⟩ rfl (rfl) (⟨rfl, rfl, HR, F67.rf⟩)
theorem x9_seed_ok {v : Int} (HR : XR h T ty fa past seed i0 i1 sees book) (hv : -2147483648 ≤ v ∧ v ≤ 2147483647) (hc : 0 ≤ v) : eb_T mX9_seed [.ref 0, .int (eb_I v)] n h (eb_G (some (.int (eb_I seed))) n (fun h' => XR h' T ty fa past v i0 i1 sees book ∧ F67 h h')) := by
  refine eb_T.of (by decide +kernel) (Nat.le_of_ble_eq_true rfl) ?_
  show eb_V _ _ 0 [.ref 0, .int (eb_I v), eb_no] [] (n, 0, 0) h _
  obtain ⟨HX, HT, HY, HP, HD, HB, HN, HL, HS, HI0, HI1⟩ := HR
  have H_this := HX.1
  have H_this_draws := HD
  have kp : ∀ k, k ≠ 40 → eb_up h 40 (dr_obj v) k = h k := fun k hk => by rw [eb_up, if_neg hk]
  refine V_iload_n eX9_seed_0 rfl rfl ?_
  refine V_if_ge (tgt := 7) eX9_seed_1 rfl (by omega) (fun c_1 => ?_) (fun c_1 => ?_)
  · refine V_aload_n eX9_seed_7 rfl rfl ?_
    refine V_getf eX9_seed_8 H_this rfl ?_
    refine V_getf eX9_seed_11 H_this_draws rfl ?_
    refine V_istore_n eX9_seed_14 rfl (Nat.le_of_ble_eq_true rfl) rfl (eb_sS (eb_sS eb_s0)) ?_
    refine V_aload_n eX9_seed_15 rfl rfl ?_
    refine V_getf eX9_seed_16 H_this rfl ?_
    refine V_iload_n eX9_seed_19 rfl rfl ?_
    refine V_putf eX9_seed_20 H_this_draws eb_fitI eb_s0 (Nat.le_of_ble_eq_true rfl) ?_
    refine V_iload_n eX9_seed_23 rfl rfl ?_
    exact V_iret eX9_seed_24 ⟨Nat.zero_le _, Nat.zero_le _⟩ rfl (rfl) (⟨rfl, rfl, ⟨HX.kept (kp _ (by omega)) (kp _ (by omega)), HT.kept (fun x a b => kp x (by omega)), HY.kept (fun x a b => kp x (by omega)), HP.kept (fun x a b => kp x (by omega)), eb_up_s, HB.kept (fun x a b => kp x (by omega)), HN.kept (fun x a b => kp x (by omega)), HL.kept (kp _ (by omega)) (fun x a b => kp x (by omega)), HS.kept (fun x a b => kp x (by omega)), HI0.kept (fun x a b => kp x (by omega)), HI1.kept (fun x a b => kp x (by omega))⟩, fun k hk => kp k (by omega)⟩)
  · exact absurd hc c_1
theorem x9_keep_unk {v : Int} (HR : XR h T ty fa past seed i0 i1 sees book) (hv : -2147483648 ≤ v ∧ v ≤ 2147483647) (hc : ¬ (0 ≤ v ∧ v ≤ 1)) : eb_T mX9_keep [.ref 0, .int (eb_I v)] n h (eb_G (some (.int (eb_I (-1000000001)))) n (fun h' => XR h' T ty fa past seed i0 i1 sees book ∧ F67 h h')) := by
  refine eb_T.of (by decide +kernel) (Nat.le_of_ble_eq_true rfl) ?_
  show eb_V _ _ 0 [.ref 0, .int (eb_I v)] [] (n, 0, 0) h _
  refine V_iload_n eX9_keep_0 rfl rfl ?_
  refine V_if_lt (tgt := 9) eX9_keep_1 rfl (by omega) (fun c_1 => ?_) (fun c_1 => ?_)
  · refine V_ldc (a := -1000000001) eX9_keep_9 wd_511 (by decide) ?_
    exact V_iret eX9_keep_11 ⟨Nat.zero_le _, Nat.zero_le _⟩ rfl (rfl) (⟨rfl, rfl, HR, F67.rf⟩)
  · refine V_iload_n eX9_keep_4 rfl rfl ?_
    refine V_iconst eX9_keep_5 ?_
    refine V_icmp_lt (tgt := 12) eX9_keep_6 rfl (by omega) (fun c_6 => ?_) (fun c_6 => ?_)
    · exact absurd c_6 (by omega)
    · refine V_ldc (a := -1000000001) eX9_keep_9 wd_511 (by decide) ?_
      exact V_iret eX9_keep_11 ⟨Nat.zero_le _, Nat.zero_le _⟩ rfl (rfl) (⟨rfl, rfl, HR, F67.rf⟩)
theorem x9_goBack_unk {v : Int} (HR : XR h T ty fa past seed i0 i1 sees book) (hv : -2147483648 ≤ v ∧ v ≤ 2147483647) (hc : ¬ (0 ≤ v ∧ v ≤ 1)) : eb_T mX9_goBack [.ref 0, .int (eb_I v)] n h (eb_G (some (.int (eb_I (-1000000001)))) n (fun h' => XR h' T ty fa past seed i0 i1 sees book ∧ F67 h h')) := by
  refine eb_T.of (by decide +kernel) (Nat.le_of_ble_eq_true rfl) ?_
  show eb_V _ _ 0 [.ref 0, .int (eb_I v)] [] (n, 0, 0) h _
  refine V_iload_n eX9_goBack_0 rfl rfl ?_
  refine V_if_lt (tgt := 9) eX9_goBack_1 rfl (by omega) (fun c_1 => ?_) (fun c_1 => ?_)
  · refine V_ldc (a := -1000000001) eX9_goBack_9 wd_511 (by decide) ?_
    exact V_iret eX9_goBack_11 ⟨Nat.zero_le _, Nat.zero_le _⟩ rfl (rfl) (⟨rfl, rfl, HR, F67.rf⟩)
  · refine V_iload_n eX9_goBack_4 rfl rfl ?_
    refine V_iconst eX9_goBack_5 ?_
    refine V_icmp_lt (tgt := 12) eX9_goBack_6 rfl (by omega) (fun c_6 => ?_) (fun c_6 => ?_)
    · exact absurd c_6 (by omega)
    · refine V_ldc (a := -1000000001) eX9_goBack_9 wd_511 (by decide) ?_
      exact V_iret eX9_goBack_11 ⟨Nat.zero_le _, Nat.zero_le _⟩ rfl (rfl) (⟨rfl, rfl, HR, F67.rf⟩)
theorem x9_keep_0 (HR : XR h T ty fa past seed i0 i1 sees book) (HO : SOK T ty fa past seed i0 i1 sees book) : eb_T mX9_keep [.ref 0, .int (eb_I 0)] n h (eb_G (some (.int (eb_I 1))) n (fun h' => XR h' T ty fa [] seed (some (T, seed)) i1 sees book ∧ F67 h h')) := by
  refine eb_T.of (by decide +kernel) (Nat.le_of_ble_eq_true rfl) ?_
  show eb_V _ _ 0 [.ref 0, .int (eb_I 0)] [] (n, 0, 0) h _
  obtain ⟨HX, HT, HY, HP, HD, HB, HN, HL, HS, HI0, HI1⟩ := HR
  obtain ⟨H_this, f, H_this_images, hf0, hf1⟩ := id HX
  have hN : T.1.length ≤ 40 := HO.1.1.1
  have hfr0 := HO.1.1.2.2.2.2
  have himg : ∃ st kp, h 61 = im_obj 61 st kp := by
    cases i0 with
    | none => obtain ⟨st, q⟩ := HI0.1; exact ⟨st, 0, q⟩
    | some q => exact ⟨q.2, 1, HI0.1⟩
  obtain ⟨st0, kp0, H_img⟩ := himg
  have H_imgtext := HI0.any
  obtain ⟨N0, me0, la0, fe0, fr0, g0, H_img_text, H_itw⟩ := id H_imgtext
  obtain ⟨pnx, pf, H_this_past, p2, p3, p4, p5, p6, p7⟩ := id HP
  refine V_iload_n eX9_keep_0 rfl rfl ?_
  refine V_if_lt (tgt := 9) eX9_keep_1 rfl (by omega) (fun c_1 => ?_) (fun c_1 => ?_)
  · exact absurd c_1 (by omega)
  · refine V_iload_n eX9_keep_4 rfl rfl ?_
    refine V_iconst eX9_keep_5 ?_
    refine V_icmp_lt (tgt := 12) eX9_keep_6 rfl (by omega) (fun c_6 => ?_) (fun c_6 => ?_)
    · refine V_aload_n eX9_keep_12 rfl rfl ?_
      refine V_getf eX9_keep_13 H_this rfl ?_
      refine V_iload_n eX9_keep_16 rfl rfl ?_
      refine V_aald eX9_keep_17 (Or.inr rfl) H_this_images (by omega) (hf0) ?_
      refine V_getf eX9_keep_18 H_img rfl ?_
      refine V_aload_n eX9_keep_21 rfl rfl ?_
      refine V_getf eX9_keep_22 H_this rfl ?_
      refine V_cvg eX9_keep_25 (c_X7_become H_imgtext HT hfr0 hN (by omega)) H_img_text rfl rfl (Nat.le_of_ble_eq_true rfl) ⟨rfl, rfl⟩ ⟨Nat.zero_le _, Nat.zero_le _⟩ (fun h1 ⟨HT1, hfr⟩ => ?_)
      show eb_V _ _ 28 _ [] _ _ _
      have H_this : h1 0 = _ := (hfr 0 (by omega)).trans H_this
      have H_this_images : h1 41 = _ := (hfr 41 (by omega)).trans H_this_images
      have H_img : h1 61 = _ := (hfr 61 (by omega)).trans H_img
      have H_this_draws : h1 40 = _ := (hfr 40 (by omega)).trans HD
      have H_this_past : h1 6 = _ := (hfr 6 (by omega)).trans H_this_past
      refine V_aload_n eX9_keep_28 rfl rfl ?_
      refine V_getf eX9_keep_29 H_this rfl ?_
      refine V_iload_n eX9_keep_32 rfl rfl ?_
      refine V_aald eX9_keep_33 (Or.inr rfl) H_this_images (by omega) (hf0) ?_
      refine V_aload_n eX9_keep_34 rfl rfl ?_
      refine V_getf eX9_keep_35 H_this rfl ?_
      refine V_getf eX9_keep_38 H_this_draws rfl ?_
      refine V_putf eX9_keep_41 H_img eb_fitI (eb_sS eb_s0) (Nat.le_of_ble_eq_true rfl) ?_
      refine V_aload_n eX9_keep_44 rfl rfl ?_
      refine V_getf eX9_keep_45 (eb_up_n (by omega) H_this) rfl ?_
      refine V_iload_n eX9_keep_48 rfl rfl ?_
      refine V_aald eX9_keep_49 (Or.inr rfl) (eb_up_n (by omega) H_this_images) (by omega) (hf0) ?_
      refine V_iconst eX9_keep_50 ?_
      refine V_putf eX9_keep_51 eb_up_s (eb_fitZ (Or.inr rfl)) (eb_sS (eb_sS eb_s0)) (Nat.le_of_ble_eq_true rfl) ?_
      refine V_aload_n eX9_keep_54 rfl rfl ?_
      refine V_getf eX9_keep_55 (eb_up_n (by omega) (eb_up_n (by omega) H_this)) rfl ?_
      refine V_iconst eX9_keep_58 ?_
      refine V_putf eX9_keep_59 (eb_up_n (by omega) (eb_up_n (by omega) H_this_past)) eb_fitI (eb_sS (eb_sS eb_s0)) (Nat.le_of_ble_eq_true rfl) ?_
      generalize hh2 : eb_up (eb_up (eb_up h1 61 _) 61 _) 6 _ = h2
      have kp : ∀ k, k ≠ 6 → k ≠ 61 → (k < 62 ∨ 63 < k) → h2 k = h k := fun k k1 k2 k3 => by rw [← hh2, eb_up, if_neg k1, eb_up, if_neg k2, eb_up, if_neg k2]; exact hfr k (by omega)
      have kt : ∀ k, k ≠ 6 → k ≠ 61 → h2 k = h1 k := fun k k1 k2 => by rw [← hh2, eb_up, if_neg k1, eb_up, if_neg k2, eb_up, if_neg k2]
      have k6 : h2 6 = pa_obj 6 pnx 0 := by rw [← hh2]; exact eb_up_s
      have ka : h2 61 = im_obj 61 seed 1 := by rw [← hh2]; exact eb_up_n (by omega) eb_up_s
      refine V_iconst eX9_keep_62 ?_
      exact V_iret eX9_keep_63 ⟨Nat.zero_le _, Nat.zero_le _⟩ rfl (rfl) (⟨rfl, rfl, ⟨HX.kept (kp _ (by omega) (by omega) (by omega)) (kp _ (by omega) (by omega) (by omega)), HT.kept (fun x a b => kp x (by omega) (by omega) (by omega)), HY.kept (fun x a b => kp x (by omega) (by omega) (by omega)), ⟨pnx, pf, k6, (kp 7 (by omega) (by omega) (by omega)).trans p2, p3, p4, by simp, fun j hj => (p6 j hj).kept (kp _ (by omega) (by omega) (by omega)) (kp _ (by omega) (by omega) (by omega)), fun j hj => absurd hj (by simp)⟩, (kp _ (by omega) (by omega) (by omega)).trans HD, HB.kept (fun x a b => kp x (by omega) (by omega) (by omega)), HN.kept (fun x a b => kp x (by omega) (by omega) (by omega)), HL.kept (kp _ (by omega) (by omega) (by omega)) (fun x a b => kp x (by omega) (by omega) (by omega)), HS.kept (fun x a b => kp x (by omega) (by omega) (by omega)), ⟨ka, HT1.kept (kt _ (by omega) (by omega)) (kt _ (by omega) (by omega))⟩, HI1.kept (fun x a b => kp x (by omega) (by omega) (by omega))⟩, fun k hk => kp k (by omega) (by omega) (by omega)⟩)
    · exact absurd (by omega) c_6
theorem x9_goBack_not_0 (HR : XR h T ty fa past seed none i1 sees book) : eb_T mX9_goBack [.ref 0, .int (eb_I 0)] n h (eb_G (some (.int (eb_I (-1000000003)))) n (fun h' => XR h' T ty fa past seed none i1 sees book ∧ F67 h h')) := by
  refine eb_T.of (by decide +kernel) (Nat.le_of_ble_eq_true rfl) ?_
  show eb_V _ _ 0 [.ref 0, .int (eb_I 0)] [] (n, 0, 0) h _
  have HR' := HR
  obtain ⟨HX, HT, HY, HP, HD, HB, HN, HL, HS, HI0, HI1⟩ := HR
  obtain ⟨H_this, f, H_this_images, hf0, hf1⟩ := id HX
  obtain ⟨st0, H_img⟩ := HI0.1
  refine V_iload_n eX9_goBack_0 rfl rfl ?_
  refine V_if_lt (tgt := 9) eX9_goBack_1 rfl (by omega) (fun c_1 => ?_) (fun c_1 => ?_)
  · exact absurd c_1 (by omega)
  · refine V_iload_n eX9_goBack_4 rfl rfl ?_
    refine V_iconst eX9_goBack_5 ?_
    refine V_icmp_lt (tgt := 12) eX9_goBack_6 rfl (by omega) (fun c_6 => ?_) (fun c_6 => ?_)
    · refine V_aload_n eX9_goBack_12 rfl rfl ?_
      refine V_getf eX9_goBack_13 H_this rfl ?_
      refine V_iload_n eX9_goBack_16 rfl rfl ?_
      refine V_aald eX9_goBack_17 (Or.inr rfl) H_this_images (by omega) (hf0) ?_
      refine V_getf eX9_goBack_18 H_img rfl ?_
      refine V_if_ne (tgt := 27) eX9_goBack_21 rfl (by omega) (fun c_21 => ?_) (fun c_21 => ?_)
      · exact absurd rfl c_21
      · refine V_ldc (a := -1000000003) eX9_goBack_24 wd_559 (by decide) ?_
        exact V_iret eX9_goBack_26 ⟨Nat.zero_le _, Nat.zero_le _⟩ rfl (rfl) (⟨rfl, rfl, HR', F67.rf⟩)
    · exact absurd (by omega) c_6
theorem x9_goBack_0 {q : TX × Int} (HR : XR h T ty fa past seed (some q) i1 sees book) (HO : SOK T ty fa past seed (some q) i1 sees book) : eb_T mX9_goBack [.ref 0, .int (eb_I 0)] n h (eb_G (some (.int (eb_I 1))) n (fun h' => XR h' q.1 ty fa [] q.2 (some q) i1 sees book ∧ F67 h h')) := by
  refine eb_T.of (by decide +kernel) (Nat.le_of_ble_eq_true rfl) ?_
  show eb_V _ _ 0 [.ref 0, .int (eb_I 0)] [] (n, 0, 0) h _
  obtain ⟨HX, HT, HY, HP, HD, HB, HN, HL, HS, HI0, HI1⟩ := HR
  obtain ⟨H_this, f, H_this_images, hf0, hf1⟩ := id HX
  obtain ⟨hTX, hsd⟩ := HO.2.2.2.2.2.1 q rfl
  have H_img := HI0.1
  have H_img_text := HI0.2.1
  have H_this_text := HT.1
  obtain ⟨pnx, pf, H_this_past, p2, p3, p4, p5, p6, p7⟩ := id HP
  refine V_iload_n eX9_goBack_0 rfl rfl ?_
  refine V_if_lt (tgt := 9) eX9_goBack_1 rfl (by omega) (fun c_1 => ?_) (fun c_1 => ?_)
  · exact absurd c_1 (by omega)
  · refine V_iload_n eX9_goBack_4 rfl rfl ?_
    refine V_iconst eX9_goBack_5 ?_
    refine V_icmp_lt (tgt := 12) eX9_goBack_6 rfl (by omega) (fun c_6 => ?_) (fun c_6 => ?_)
    · refine V_aload_n eX9_goBack_12 rfl rfl ?_
      refine V_getf eX9_goBack_13 H_this rfl ?_
      refine V_iload_n eX9_goBack_16 rfl rfl ?_
      refine V_aald eX9_goBack_17 (Or.inr rfl) H_this_images (by omega) (hf0) ?_
      refine V_getf eX9_goBack_18 H_img rfl ?_
      refine V_if_ne (tgt := 27) eX9_goBack_21 rfl (by omega) (fun c_21 => ?_) (fun c_21 => ?_)
      · refine V_aload_n eX9_goBack_27 rfl rfl ?_
        refine V_getf eX9_goBack_28 H_this rfl ?_
        refine V_aload_n eX9_goBack_31 rfl rfl ?_
        refine V_getf eX9_goBack_32 H_this rfl ?_
        refine V_iload_n eX9_goBack_35 rfl rfl ?_
        refine V_aald eX9_goBack_36 (Or.inr rfl) H_this_images (by omega) (hf0) ?_
        refine V_getf eX9_goBack_37 H_img rfl ?_
        refine V_cvg eX9_goBack_40 (c_X7_become (tx_at.any HT) HI0.2 hTX.1.2.2.2.2 hTX.1.1 (by omega)) H_this_text rfl rfl (Nat.le_of_ble_eq_true rfl) ⟨rfl, rfl⟩ ⟨Nat.zero_le _, Nat.zero_le _⟩ (fun h1 ⟨HT1, hfr⟩ => ?_)
        show eb_V _ _ 43 _ [] _ _ _
        have H_this : h1 0 = _ := (hfr 0 (by omega)).trans H_this
        have H_this_images : h1 41 = _ := (hfr 41 (by omega)).trans H_this_images
        have H_img : h1 61 = _ := (hfr 61 (by omega)).trans H_img
        have H_this_draws : h1 40 = _ := (hfr 40 (by omega)).trans HD
        have H_this_past : h1 6 = _ := (hfr 6 (by omega)).trans H_this_past
        refine V_aload_n eX9_goBack_43 rfl rfl ?_
        refine V_getf eX9_goBack_44 H_this rfl ?_
        refine V_aload_n eX9_goBack_47 rfl rfl ?_
        refine V_getf eX9_goBack_48 H_this rfl ?_
        refine V_iload_n eX9_goBack_51 rfl rfl ?_
        refine V_aald eX9_goBack_52 (Or.inr rfl) H_this_images (by omega) (hf0) ?_
        refine V_getf eX9_goBack_53 H_img rfl ?_
        refine V_putf eX9_goBack_56 H_this_draws eb_fitI eb_s0 (Nat.le_of_ble_eq_true rfl) ?_
        refine V_aload_n eX9_goBack_59 rfl rfl ?_
        refine V_getf eX9_goBack_60 (eb_up_n (by omega) H_this) rfl ?_
        refine V_iconst eX9_goBack_63 ?_
        refine V_putf eX9_goBack_64 (eb_up_n (by omega) H_this_past) eb_fitI (eb_sS (eb_sS eb_s0)) (Nat.le_of_ble_eq_true rfl) ?_
        generalize hh3 : eb_up (eb_up h1 40 _) 6 _ = h3
        have kt : ∀ k, k ≠ 6 → k ≠ 40 → h3 k = h1 k := fun k k1 k2 => by rw [← hh3, eb_up, if_neg k1, eb_up, if_neg k2]
        have kp3 : ∀ k, k ≠ 6 → k ≠ 40 → (k < 1 ∨ 2 < k) → h3 k = h k := fun k k1 k2 k3 => (kt k k1 k2).trans (hfr k (by omega))
        have k6 : h3 6 = pa_obj 6 pnx 0 := by rw [← hh3]; exact eb_up_s
        have k40 : h3 40 = dr_obj q.2 := by rw [← hh3]; exact eb_up_n (by omega) eb_up_s
        have H_this : h3 0 = _ := (kt 0 (by omega) (by omega)).trans H_this
        have HT3 : tx h3 1 q.1 := HT1.kept (kt _ (by omega) (by omega)) (kt _ (by omega) (by omega))
        have HX3 : xo h3 := HX.kept (kp3 0 (by omega) (by omega) (by omega)) (kp3 41 (by omega) (by omega) (by omega))
        have HN3 : lyany h3 46 := now.any (HN.kept (fun x a b => kp3 x (by omega) (by omega) (by omega)))
        have HS3 : sur h3 T sees := HS.kept (fun x a b => kp3 x (by omega) (by omega) (by omega))
        have HP3 : pa_at h3 6 [] := ⟨pnx, pf, k6, (kp3 7 (by omega) (by omega) (by omega)).trans p2, p3, p4, by simp, fun j hj => (p6 j hj).kept (kp3 _ (by omega) (by omega) (by omega)) (kp3 _ (by omega) (by omega) (by omega)), fun j hj => absurd hj (by simp)⟩
        refine V_aload_n eX9_goBack_67 rfl rfl ?_
        refine V_cvg eX9_goBack_68 (c_X9_layAnew HX3 HT3 hTX HN3 HS3.any) H_this rfl rfl (Nat.le_of_ble_eq_true rfl) ⟨rfl, rfl⟩ ⟨Nat.zero_le _, Nat.zero_le _⟩ (fun h4 ⟨⟨HN4, HS4⟩, hfr4⟩ => ?_)
        show eb_V _ _ 71 _ [] _ _ _
        refine V_iconst eX9_goBack_71 ?_
        exact V_iret eX9_goBack_72 ⟨Nat.zero_le _, Nat.zero_le _⟩ rfl (rfl) (⟨rfl, rfl, XR.deed HX3 HT3 (HY.kept (fun x a b => kp3 x (by omega) (by omega) (by omega))) HP3 k40 (HB.kept (fun x a b => kp3 x (by omega) (by omega) (by omega))) (HL.kept (kp3 _ (by omega) (by omega) (by omega)) (fun x a b => kp3 x (by omega) (by omega) (by omega))) (HI0.kept (fun x a b => kp3 x (by omega) (by omega) (by omega))) (HI1.kept (fun x a b => kp3 x (by omega) (by omega) (by omega))) HN4 HS4 hfr4, fun k hk => (hfr4 k (by omega) (by omega)).trans (kp3 k (by omega) (by omega) (by omega))⟩)
      · exact absurd c_21 (by omega)
    · exact absurd (by omega) c_6
theorem x9_keep_1 (HR : XR h T ty fa past seed i0 i1 sees book) (HO : SOK T ty fa past seed i0 i1 sees book) : eb_T mX9_keep [.ref 0, .int (eb_I 1)] n h (eb_G (some (.int (eb_I 1))) n (fun h' => XR h' T ty fa [] seed i0 (some (T, seed)) sees book ∧ F67 h h')) := by
  refine eb_T.of (by decide +kernel) (Nat.le_of_ble_eq_true rfl) ?_
  show eb_V _ _ 0 [.ref 0, .int (eb_I 1)] [] (n, 0, 0) h _
  obtain ⟨HX, HT, HY, HP, HD, HB, HN, HL, HS, HI0, HI1⟩ := HR
  obtain ⟨H_this, f, H_this_images, hf0, hf1⟩ := id HX
  have hN : T.1.length ≤ 40 := HO.1.1.1
  have hfr0 := HO.1.1.2.2.2.2
  have himg : ∃ st kp, h 64 = im_obj 64 st kp := by
    cases i1 with
    | none => obtain ⟨st, q⟩ := HI1.1; exact ⟨st, 0, q⟩
    | some q => exact ⟨q.2, 1, HI1.1⟩
  obtain ⟨st0, kp0, H_img⟩ := himg
  have H_imgtext := HI1.any
  obtain ⟨N0, me0, la0, fe0, fr0, g0, H_img_text, H_itw⟩ := id H_imgtext
  obtain ⟨pnx, pf, H_this_past, p2, p3, p4, p5, p6, p7⟩ := id HP
  refine V_iload_n eX9_keep_0 rfl rfl ?_
  refine V_if_lt (tgt := 9) eX9_keep_1 rfl (by omega) (fun c_1 => ?_) (fun c_1 => ?_)
  · exact absurd c_1 (by omega)
  · refine V_iload_n eX9_keep_4 rfl rfl ?_
    refine V_iconst eX9_keep_5 ?_
    refine V_icmp_lt (tgt := 12) eX9_keep_6 rfl (by omega) (fun c_6 => ?_) (fun c_6 => ?_)
    · refine V_aload_n eX9_keep_12 rfl rfl ?_
      refine V_getf eX9_keep_13 H_this rfl ?_
      refine V_iload_n eX9_keep_16 rfl rfl ?_
      refine V_aald eX9_keep_17 (Or.inr rfl) H_this_images (by omega) (hf1) ?_
      refine V_getf eX9_keep_18 H_img rfl ?_
      refine V_aload_n eX9_keep_21 rfl rfl ?_
      refine V_getf eX9_keep_22 H_this rfl ?_
      refine V_cvg eX9_keep_25 (c_X7_become H_imgtext HT hfr0 hN (by omega)) H_img_text rfl rfl (Nat.le_of_ble_eq_true rfl) ⟨rfl, rfl⟩ ⟨Nat.zero_le _, Nat.zero_le _⟩ (fun h1 ⟨HT1, hfr⟩ => ?_)
      show eb_V _ _ 28 _ [] _ _ _
      have H_this : h1 0 = _ := (hfr 0 (by omega)).trans H_this
      have H_this_images : h1 41 = _ := (hfr 41 (by omega)).trans H_this_images
      have H_img : h1 64 = _ := (hfr 64 (by omega)).trans H_img
      have H_this_draws : h1 40 = _ := (hfr 40 (by omega)).trans HD
      have H_this_past : h1 6 = _ := (hfr 6 (by omega)).trans H_this_past
      refine V_aload_n eX9_keep_28 rfl rfl ?_
      refine V_getf eX9_keep_29 H_this rfl ?_
      refine V_iload_n eX9_keep_32 rfl rfl ?_
      refine V_aald eX9_keep_33 (Or.inr rfl) H_this_images (by omega) (hf1) ?_
      refine V_aload_n eX9_keep_34 rfl rfl ?_
      refine V_getf eX9_keep_35 H_this rfl ?_
      refine V_getf eX9_keep_38 H_this_draws rfl ?_
      refine V_putf eX9_keep_41 H_img eb_fitI (eb_sS eb_s0) (Nat.le_of_ble_eq_true rfl) ?_
      refine V_aload_n eX9_keep_44 rfl rfl ?_
      refine V_getf eX9_keep_45 (eb_up_n (by omega) H_this) rfl ?_
      refine V_iload_n eX9_keep_48 rfl rfl ?_
      refine V_aald eX9_keep_49 (Or.inr rfl) (eb_up_n (by omega) H_this_images) (by omega) (hf1) ?_
      refine V_iconst eX9_keep_50 ?_
      refine V_putf eX9_keep_51 eb_up_s (eb_fitZ (Or.inr rfl)) (eb_sS (eb_sS eb_s0)) (Nat.le_of_ble_eq_true rfl) ?_
      refine V_aload_n eX9_keep_54 rfl rfl ?_
      refine V_getf eX9_keep_55 (eb_up_n (by omega) (eb_up_n (by omega) H_this)) rfl ?_
      refine V_iconst eX9_keep_58 ?_
      refine V_putf eX9_keep_59 (eb_up_n (by omega) (eb_up_n (by omega) H_this_past)) eb_fitI (eb_sS (eb_sS eb_s0)) (Nat.le_of_ble_eq_true rfl) ?_
      generalize hh2 : eb_up (eb_up (eb_up h1 64 _) 64 _) 6 _ = h2
      have kp : ∀ k, k ≠ 6 → k ≠ 64 → (k < 65 ∨ 66 < k) → h2 k = h k := fun k k1 k2 k3 => by rw [← hh2, eb_up, if_neg k1, eb_up, if_neg k2, eb_up, if_neg k2]; exact hfr k (by omega)
      have kt : ∀ k, k ≠ 6 → k ≠ 64 → h2 k = h1 k := fun k k1 k2 => by rw [← hh2, eb_up, if_neg k1, eb_up, if_neg k2, eb_up, if_neg k2]
      have k6 : h2 6 = pa_obj 6 pnx 0 := by rw [← hh2]; exact eb_up_s
      have ka : h2 64 = im_obj 64 seed 1 := by rw [← hh2]; exact eb_up_n (by omega) eb_up_s
      refine V_iconst eX9_keep_62 ?_
      exact V_iret eX9_keep_63 ⟨Nat.zero_le _, Nat.zero_le _⟩ rfl (rfl) (⟨rfl, rfl, ⟨HX.kept (kp _ (by omega) (by omega) (by omega)) (kp _ (by omega) (by omega) (by omega)), HT.kept (fun x a b => kp x (by omega) (by omega) (by omega)), HY.kept (fun x a b => kp x (by omega) (by omega) (by omega)), ⟨pnx, pf, k6, (kp 7 (by omega) (by omega) (by omega)).trans p2, p3, p4, by simp, fun j hj => (p6 j hj).kept (kp _ (by omega) (by omega) (by omega)) (kp _ (by omega) (by omega) (by omega)), fun j hj => absurd hj (by simp)⟩, (kp _ (by omega) (by omega) (by omega)).trans HD, HB.kept (fun x a b => kp x (by omega) (by omega) (by omega)), HN.kept (fun x a b => kp x (by omega) (by omega) (by omega)), HL.kept (kp _ (by omega) (by omega) (by omega)) (fun x a b => kp x (by omega) (by omega) (by omega)), HS.kept (fun x a b => kp x (by omega) (by omega) (by omega)), HI0.kept (fun x a b => kp x (by omega) (by omega) (by omega)), ⟨ka, HT1.kept (kt _ (by omega) (by omega)) (kt _ (by omega) (by omega))⟩⟩, fun k hk => kp k (by omega) (by omega) (by omega)⟩)
    · exact absurd (by omega) c_6
theorem x9_goBack_not_1 (HR : XR h T ty fa past seed i0 none sees book) : eb_T mX9_goBack [.ref 0, .int (eb_I 1)] n h (eb_G (some (.int (eb_I (-1000000003)))) n (fun h' => XR h' T ty fa past seed i0 none sees book ∧ F67 h h')) := by
  refine eb_T.of (by decide +kernel) (Nat.le_of_ble_eq_true rfl) ?_
  show eb_V _ _ 0 [.ref 0, .int (eb_I 1)] [] (n, 0, 0) h _
  have HR' := HR
  obtain ⟨HX, HT, HY, HP, HD, HB, HN, HL, HS, HI0, HI1⟩ := HR
  obtain ⟨H_this, f, H_this_images, hf0, hf1⟩ := id HX
  obtain ⟨st0, H_img⟩ := HI1.1
  refine V_iload_n eX9_goBack_0 rfl rfl ?_
  refine V_if_lt (tgt := 9) eX9_goBack_1 rfl (by omega) (fun c_1 => ?_) (fun c_1 => ?_)
  · exact absurd c_1 (by omega)
  · refine V_iload_n eX9_goBack_4 rfl rfl ?_
    refine V_iconst eX9_goBack_5 ?_
    refine V_icmp_lt (tgt := 12) eX9_goBack_6 rfl (by omega) (fun c_6 => ?_) (fun c_6 => ?_)
    · refine V_aload_n eX9_goBack_12 rfl rfl ?_
      refine V_getf eX9_goBack_13 H_this rfl ?_
      refine V_iload_n eX9_goBack_16 rfl rfl ?_
      refine V_aald eX9_goBack_17 (Or.inr rfl) H_this_images (by omega) (hf1) ?_
      refine V_getf eX9_goBack_18 H_img rfl ?_
      refine V_if_ne (tgt := 27) eX9_goBack_21 rfl (by omega) (fun c_21 => ?_) (fun c_21 => ?_)
      · exact absurd rfl c_21
      · refine V_ldc (a := -1000000003) eX9_goBack_24 wd_559 (by decide) ?_
        exact V_iret eX9_goBack_26 ⟨Nat.zero_le _, Nat.zero_le _⟩ rfl (rfl) (⟨rfl, rfl, HR', F67.rf⟩)
    · exact absurd (by omega) c_6
theorem x9_goBack_1 {q : TX × Int} (HR : XR h T ty fa past seed i0 (some q) sees book) (HO : SOK T ty fa past seed i0 (some q) sees book) : eb_T mX9_goBack [.ref 0, .int (eb_I 1)] n h (eb_G (some (.int (eb_I 1))) n (fun h' => XR h' q.1 ty fa [] q.2 i0 (some q) sees book ∧ F67 h h')) := by
  refine eb_T.of (by decide +kernel) (Nat.le_of_ble_eq_true rfl) ?_
  show eb_V _ _ 0 [.ref 0, .int (eb_I 1)] [] (n, 0, 0) h _
  obtain ⟨HX, HT, HY, HP, HD, HB, HN, HL, HS, HI0, HI1⟩ := HR
  obtain ⟨H_this, f, H_this_images, hf0, hf1⟩ := id HX
  obtain ⟨hTX, hsd⟩ := HO.2.2.2.2.2.2.1 q rfl
  have H_img := HI1.1
  have H_img_text := HI1.2.1
  have H_this_text := HT.1
  obtain ⟨pnx, pf, H_this_past, p2, p3, p4, p5, p6, p7⟩ := id HP
  refine V_iload_n eX9_goBack_0 rfl rfl ?_
  refine V_if_lt (tgt := 9) eX9_goBack_1 rfl (by omega) (fun c_1 => ?_) (fun c_1 => ?_)
  · exact absurd c_1 (by omega)
  · refine V_iload_n eX9_goBack_4 rfl rfl ?_
    refine V_iconst eX9_goBack_5 ?_
    refine V_icmp_lt (tgt := 12) eX9_goBack_6 rfl (by omega) (fun c_6 => ?_) (fun c_6 => ?_)
    · refine V_aload_n eX9_goBack_12 rfl rfl ?_
      refine V_getf eX9_goBack_13 H_this rfl ?_
      refine V_iload_n eX9_goBack_16 rfl rfl ?_
      refine V_aald eX9_goBack_17 (Or.inr rfl) H_this_images (by omega) (hf1) ?_
      refine V_getf eX9_goBack_18 H_img rfl ?_
      refine V_if_ne (tgt := 27) eX9_goBack_21 rfl (by omega) (fun c_21 => ?_) (fun c_21 => ?_)
      · refine V_aload_n eX9_goBack_27 rfl rfl ?_
        refine V_getf eX9_goBack_28 H_this rfl ?_
        refine V_aload_n eX9_goBack_31 rfl rfl ?_
        refine V_getf eX9_goBack_32 H_this rfl ?_
        refine V_iload_n eX9_goBack_35 rfl rfl ?_
        refine V_aald eX9_goBack_36 (Or.inr rfl) H_this_images (by omega) (hf1) ?_
        refine V_getf eX9_goBack_37 H_img rfl ?_
        refine V_cvg eX9_goBack_40 (c_X7_become (tx_at.any HT) HI1.2 hTX.1.2.2.2.2 hTX.1.1 (by omega)) H_this_text rfl rfl (Nat.le_of_ble_eq_true rfl) ⟨rfl, rfl⟩ ⟨Nat.zero_le _, Nat.zero_le _⟩ (fun h1 ⟨HT1, hfr⟩ => ?_)
        show eb_V _ _ 43 _ [] _ _ _
        have H_this : h1 0 = _ := (hfr 0 (by omega)).trans H_this
        have H_this_images : h1 41 = _ := (hfr 41 (by omega)).trans H_this_images
        have H_img : h1 64 = _ := (hfr 64 (by omega)).trans H_img
        have H_this_draws : h1 40 = _ := (hfr 40 (by omega)).trans HD
        have H_this_past : h1 6 = _ := (hfr 6 (by omega)).trans H_this_past
        refine V_aload_n eX9_goBack_43 rfl rfl ?_
        refine V_getf eX9_goBack_44 H_this rfl ?_
        refine V_aload_n eX9_goBack_47 rfl rfl ?_
        refine V_getf eX9_goBack_48 H_this rfl ?_
        refine V_iload_n eX9_goBack_51 rfl rfl ?_
        refine V_aald eX9_goBack_52 (Or.inr rfl) H_this_images (by omega) (hf1) ?_
        refine V_getf eX9_goBack_53 H_img rfl ?_
        refine V_putf eX9_goBack_56 H_this_draws eb_fitI eb_s0 (Nat.le_of_ble_eq_true rfl) ?_
        refine V_aload_n eX9_goBack_59 rfl rfl ?_
        refine V_getf eX9_goBack_60 (eb_up_n (by omega) H_this) rfl ?_
        refine V_iconst eX9_goBack_63 ?_
        refine V_putf eX9_goBack_64 (eb_up_n (by omega) H_this_past) eb_fitI (eb_sS (eb_sS eb_s0)) (Nat.le_of_ble_eq_true rfl) ?_
        generalize hh3 : eb_up (eb_up h1 40 _) 6 _ = h3
        have kt : ∀ k, k ≠ 6 → k ≠ 40 → h3 k = h1 k := fun k k1 k2 => by rw [← hh3, eb_up, if_neg k1, eb_up, if_neg k2]
        have kp3 : ∀ k, k ≠ 6 → k ≠ 40 → (k < 1 ∨ 2 < k) → h3 k = h k := fun k k1 k2 k3 => (kt k k1 k2).trans (hfr k (by omega))
        have k6 : h3 6 = pa_obj 6 pnx 0 := by rw [← hh3]; exact eb_up_s
        have k40 : h3 40 = dr_obj q.2 := by rw [← hh3]; exact eb_up_n (by omega) eb_up_s
        have H_this : h3 0 = _ := (kt 0 (by omega) (by omega)).trans H_this
        have HT3 : tx h3 1 q.1 := HT1.kept (kt _ (by omega) (by omega)) (kt _ (by omega) (by omega))
        have HX3 : xo h3 := HX.kept (kp3 0 (by omega) (by omega) (by omega)) (kp3 41 (by omega) (by omega) (by omega))
        have HN3 : lyany h3 46 := now.any (HN.kept (fun x a b => kp3 x (by omega) (by omega) (by omega)))
        have HS3 : sur h3 T sees := HS.kept (fun x a b => kp3 x (by omega) (by omega) (by omega))
        have HP3 : pa_at h3 6 [] := ⟨pnx, pf, k6, (kp3 7 (by omega) (by omega) (by omega)).trans p2, p3, p4, by simp, fun j hj => (p6 j hj).kept (kp3 _ (by omega) (by omega) (by omega)) (kp3 _ (by omega) (by omega) (by omega)), fun j hj => absurd hj (by simp)⟩
        refine V_aload_n eX9_goBack_67 rfl rfl ?_
        refine V_cvg eX9_goBack_68 (c_X9_layAnew HX3 HT3 hTX HN3 HS3.any) H_this rfl rfl (Nat.le_of_ble_eq_true rfl) ⟨rfl, rfl⟩ ⟨Nat.zero_le _, Nat.zero_le _⟩ (fun h4 ⟨⟨HN4, HS4⟩, hfr4⟩ => ?_)
        show eb_V _ _ 71 _ [] _ _ _
        refine V_iconst eX9_goBack_71 ?_
        exact V_iret eX9_goBack_72 ⟨Nat.zero_le _, Nat.zero_le _⟩ rfl (rfl) (⟨rfl, rfl, XR.deed HX3 HT3 (HY.kept (fun x a b => kp3 x (by omega) (by omega) (by omega))) HP3 k40 (HB.kept (fun x a b => kp3 x (by omega) (by omega) (by omega))) (HL.kept (kp3 _ (by omega) (by omega) (by omega)) (fun x a b => kp3 x (by omega) (by omega) (by omega))) (HI0.kept (fun x a b => kp3 x (by omega) (by omega) (by omega))) (HI1.kept (fun x a b => kp3 x (by omega) (by omega) (by omega))) HN4 HS4 hfr4, fun k hk => (hfr4 k (by omega) (by omega)).trans (kp3 k (by omega) (by omega) (by omega))⟩)
      · exact absurd c_21 (by omega)
    · exact absurd (by omega) c_6
end X9D
