theorem lc_un {S : Nat → Prop} {v w : Int} (h1 : lc S v) (h2 : lc S w) : v = w := by
  rcases h1 with ⟨a, b⟩ | ⟨m, a1, a2, a3⟩
  · rw [a]; exact (lc_none h2 b).symm
  · rw [a2]; exact (lc_at h2 a1 a3).symm
theorem gc_un {S : Nat → Prop} {v w : Int} (h1 : gc S v) (h2 : gc S w) : v = w := by
  rcases h1 with ⟨a, b⟩ | ⟨m, a1, a2, a3⟩
  · rw [a]; exact (gc_none h2 b).symm
  · rw [a2]; exact (gc_at h2 a1 a3).symm
theorem lc_iff {S S' : Nat → Prop} {v : Int} (e : ∀ m, S m ↔ S' m) (h1 : lc S v) : lc S' v := by
  rw [show S' = S from funext (fun m => propext (e m).symm)]; exact h1
theorem gc_iff {S S' : Nat → Prop} {v : Int} (e : ∀ m, S m ↔ S' m) (h1 : gc S v) : gc S' v := by
  rw [show S' = S from funext (fun m => propext (e m).symm)]; exact h1
section M12
variable {n : Nat} {h : eb_H} {T : TX} {ty : List Nat} {fa : Int} {past : List TX} {seed : Int} {i0 i1 : Option (TX × Int)} {sees : List (Nat × Bool)} {book : List (Int × Int)}
theorem x10_fault (HR : MR h T ty fa past seed i0 i1 sees book) (HO : SOK T ty fa past seed i0 i1 sees book) : eb_T mX10_fault [.ref 67] n h (eb_G (some (.int (eb_I (fa)))) n (fun h' => MR h' T ty fa past seed i0 i1 sees book ∧ L67 h h')) := by
  obtain ⟨cc, HR⟩ := HR
  obtain ⟨H_this, K, ⟨sf, H_this_st, hm⟩, ⟨pf, H_this_past, hp⟩, ⟨tf, H_this_typed, htf⟩, ⟨⟨ns, H_this_newSizes⟩, nl, H_this_newLetters⟩, ⟨⟨wd, H_this_wide⟩, HM, ⟨be, H_this_begins⟩, wi, H_this_with⟩, ⟨se, H_this_seen, hse⟩, ⟨bo, H_this_book, hbo⟩, ⟨⟨bb, H_this_beginsBy⟩, ib, H_this_isBy⟩, imf, kp, H_this_images, H_this_isKept, hi0, hi1⟩ := id HR
  obtain ⟨k2, k3, k5, k6, k19, k21⟩ := K
  obtain ⟨HT, hty, hfa, hpo, hsd, hg0, hg1, hsu, hbk⟩ := id HO
  have hN : T.1.length ≤ 40 := HT.1.1
  have e0 : sf (0 : Int).toNat = (T.1.length : Int) := hm.1
  refine eb_T.of (by decide +kernel) (Nat.le_of_ble_eq_true rfl) ?_
  show eb_V _ _ 0 [.ref 67] [] (n, 0, 0) h _
  refine V_aload_n eX10_fault_0 rfl rfl ?_
  refine V_getf eX10_fault_1 H_this rfl ?_
  rw [k6]
  exact V_iret eX10_fault_4 ⟨Nat.zero_le _, Nat.zero_le _⟩ rfl (rfl) (⟨rfl, rfl, ⟨cc, HR⟩, fun _ _ => rfl⟩)
theorem x10_told_0 (HR : MR h T ty fa past seed i0 i1 sees book) (HO : SOK T ty fa past seed i0 i1 sees book) : eb_T mX10_told [.ref 67, .int (eb_I 0)] n h (eb_G (some (.int (eb_I ((T.1.length : Int))))) n (fun h' => MR h' T ty fa past seed i0 i1 sees book ∧ L67 h h')) := by
  obtain ⟨cc, HR⟩ := HR
  obtain ⟨H_this, K, ⟨sf, H_this_st, hm⟩, ⟨pf, H_this_past, hp⟩, ⟨tf, H_this_typed, htf⟩, ⟨⟨ns, H_this_newSizes⟩, nl, H_this_newLetters⟩, ⟨⟨wd, H_this_wide⟩, HM, ⟨be, H_this_begins⟩, wi, H_this_with⟩, ⟨se, H_this_seen, hse⟩, ⟨bo, H_this_book, hbo⟩, ⟨⟨bb, H_this_beginsBy⟩, ib, H_this_isBy⟩, imf, kp, H_this_images, H_this_isKept, hi0, hi1⟩ := id HR
  obtain ⟨k2, k3, k5, k6, k19, k21⟩ := K
  obtain ⟨HT, hty, hfa, hpo, hsd, hg0, hg1, hsu, hbk⟩ := id HO
  have hN : T.1.length ≤ 40 := HT.1.1
  have e0 : sf (0 : Int).toNat = (T.1.length : Int) := hm.1
  refine eb_T.of (by decide +kernel) (Nat.le_of_ble_eq_true rfl) ?_
  show eb_V _ _ 0 [.ref 67, .int (eb_I 0)] [] (n, 0, 0) h _
  refine V_iload_n eX10_told_0 rfl rfl ?_
  refine V_tswIn (tgt := 92) (off := 91) eX10_told_1 (by omega) (by omega) rfl rfl ?_
  refine V_aload_n eX10_told_92 rfl rfl ?_
  refine V_getf eX10_told_93 H_this rfl ?_
  refine V_iload_n eX10_told_96 rfl rfl ?_
  refine V_iald eX10_told_97 H_this_st (by omega) ?_
  rw [e0]
  exact V_iret eX10_told_98 ⟨Nat.zero_le _, Nat.zero_le _⟩ rfl (rfl) (⟨rfl, rfl, ⟨cc, HR⟩, fun _ _ => rfl⟩)
theorem x10_told_1 (HR : MR h T ty fa past seed i0 i1 sees book) (HO : SOK T ty fa past seed i0 i1 sees book) : eb_T mX10_told [.ref 67, .int (eb_I 1)] n h (eb_G (some (.int (eb_I (T.2.1)))) n (fun h' => MR h' T ty fa past seed i0 i1 sees book ∧ L67 h h')) := by
  obtain ⟨cc, HR⟩ := HR
  obtain ⟨H_this, K, ⟨sf, H_this_st, hm⟩, ⟨pf, H_this_past, hp⟩, ⟨tf, H_this_typed, htf⟩, ⟨⟨ns, H_this_newSizes⟩, nl, H_this_newLetters⟩, ⟨⟨wd, H_this_wide⟩, HM, ⟨be, H_this_begins⟩, wi, H_this_with⟩, ⟨se, H_this_seen, hse⟩, ⟨bo, H_this_book, hbo⟩, ⟨⟨bb, H_this_beginsBy⟩, ib, H_this_isBy⟩, imf, kp, H_this_images, H_this_isKept, hi0, hi1⟩ := id HR
  obtain ⟨k2, k3, k5, k6, k19, k21⟩ := K
  obtain ⟨HT, hty, hfa, hpo, hsd, hg0, hg1, hsu, hbk⟩ := id HO
  have hN : T.1.length ≤ 40 := HT.1.1
  have e0 : sf (0 : Int).toNat = (T.1.length : Int) := hm.1
  refine eb_T.of (by decide +kernel) (Nat.le_of_ble_eq_true rfl) ?_
  show eb_V _ _ 0 [.ref 67, .int (eb_I 1)] [] (n, 0, 0) h _
  refine V_iload_n eX10_told_0 rfl rfl ?_
  refine V_tswIn (tgt := 92) (off := 91) eX10_told_1 (by omega) (by omega) rfl rfl ?_
  refine V_aload_n eX10_told_92 rfl rfl ?_
  refine V_getf eX10_told_93 H_this rfl ?_
  refine V_iload_n eX10_told_96 rfl rfl ?_
  refine V_iald eX10_told_97 H_this_st (by omega) ?_
  rw [(show sf (1 : Int).toNat = T.2.1 from hm.2.1)]
  exact V_iret eX10_told_98 ⟨Nat.zero_le _, Nat.zero_le _⟩ rfl (rfl) (⟨rfl, rfl, ⟨cc, HR⟩, fun _ _ => rfl⟩)
theorem x10_told_2 (HR : MR h T ty fa past seed i0 i1 sees book) (HO : SOK T ty fa past seed i0 i1 sees book) : eb_T mX10_told [.ref 67, .int (eb_I 2)] n h (eb_G (some (.int (eb_I (T.2.2.1)))) n (fun h' => MR h' T ty fa past seed i0 i1 sees book ∧ L67 h h')) := by
  obtain ⟨cc, HR⟩ := HR
  obtain ⟨H_this, K, ⟨sf, H_this_st, hm⟩, ⟨pf, H_this_past, hp⟩, ⟨tf, H_this_typed, htf⟩, ⟨⟨ns, H_this_newSizes⟩, nl, H_this_newLetters⟩, ⟨⟨wd, H_this_wide⟩, HM, ⟨be, H_this_begins⟩, wi, H_this_with⟩, ⟨se, H_this_seen, hse⟩, ⟨bo, H_this_book, hbo⟩, ⟨⟨bb, H_this_beginsBy⟩, ib, H_this_isBy⟩, imf, kp, H_this_images, H_this_isKept, hi0, hi1⟩ := id HR
  obtain ⟨k2, k3, k5, k6, k19, k21⟩ := K
  obtain ⟨HT, hty, hfa, hpo, hsd, hg0, hg1, hsu, hbk⟩ := id HO
  have hN : T.1.length ≤ 40 := HT.1.1
  have e0 : sf (0 : Int).toNat = (T.1.length : Int) := hm.1
  refine eb_T.of (by decide +kernel) (Nat.le_of_ble_eq_true rfl) ?_
  show eb_V _ _ 0 [.ref 67, .int (eb_I 2)] [] (n, 0, 0) h _
  refine V_iload_n eX10_told_0 rfl rfl ?_
  refine V_tswIn (tgt := 92) (off := 91) eX10_told_1 (by omega) (by omega) rfl rfl ?_
  refine V_aload_n eX10_told_92 rfl rfl ?_
  refine V_getf eX10_told_93 H_this rfl ?_
  refine V_iload_n eX10_told_96 rfl rfl ?_
  refine V_iald eX10_told_97 H_this_st (by omega) ?_
  rw [(show sf (2 : Int).toNat = T.2.2.1 from hm.2.2.1)]
  exact V_iret eX10_told_98 ⟨Nat.zero_le _, Nat.zero_le _⟩ rfl (rfl) (⟨rfl, rfl, ⟨cc, HR⟩, fun _ _ => rfl⟩)
theorem x10_told_3 (HR : MR h T ty fa past seed i0 i1 sees book) (HO : SOK T ty fa past seed i0 i1 sees book) : eb_T mX10_told [.ref 67, .int (eb_I 3)] n h (eb_G (some (.int (eb_I (T.2.2.2.1)))) n (fun h' => MR h' T ty fa past seed i0 i1 sees book ∧ L67 h h')) := by
  obtain ⟨cc, HR⟩ := HR
  obtain ⟨H_this, K, ⟨sf, H_this_st, hm⟩, ⟨pf, H_this_past, hp⟩, ⟨tf, H_this_typed, htf⟩, ⟨⟨ns, H_this_newSizes⟩, nl, H_this_newLetters⟩, ⟨⟨wd, H_this_wide⟩, HM, ⟨be, H_this_begins⟩, wi, H_this_with⟩, ⟨se, H_this_seen, hse⟩, ⟨bo, H_this_book, hbo⟩, ⟨⟨bb, H_this_beginsBy⟩, ib, H_this_isBy⟩, imf, kp, H_this_images, H_this_isKept, hi0, hi1⟩ := id HR
  obtain ⟨k2, k3, k5, k6, k19, k21⟩ := K
  obtain ⟨HT, hty, hfa, hpo, hsd, hg0, hg1, hsu, hbk⟩ := id HO
  have hN : T.1.length ≤ 40 := HT.1.1
  have e0 : sf (0 : Int).toNat = (T.1.length : Int) := hm.1
  refine eb_T.of (by decide +kernel) (Nat.le_of_ble_eq_true rfl) ?_
  show eb_V _ _ 0 [.ref 67, .int (eb_I 3)] [] (n, 0, 0) h _
  refine V_iload_n eX10_told_0 rfl rfl ?_
  refine V_tswIn (tgt := 92) (off := 91) eX10_told_1 (by omega) (by omega) rfl rfl ?_
  refine V_aload_n eX10_told_92 rfl rfl ?_
  refine V_getf eX10_told_93 H_this rfl ?_
  refine V_iload_n eX10_told_96 rfl rfl ?_
  refine V_iald eX10_told_97 H_this_st (by omega) ?_
  rw [(show sf (3 : Int).toNat = T.2.2.2.1 from hm.2.2.2.1)]
  exact V_iret eX10_told_98 ⟨Nat.zero_le _, Nat.zero_le _⟩ rfl (rfl) (⟨rfl, rfl, ⟨cc, HR⟩, fun _ _ => rfl⟩)
theorem x10_told_4 (HR : MR h T ty fa past seed i0 i1 sees book) (HO : SOK T ty fa past seed i0 i1 sees book) : eb_T mX10_told [.ref 67, .int (eb_I 4)] n h (eb_G (some (.int (eb_I (T.2.2.2.2)))) n (fun h' => MR h' T ty fa past seed i0 i1 sees book ∧ L67 h h')) := by
  obtain ⟨cc, HR⟩ := HR
  obtain ⟨H_this, K, ⟨sf, H_this_st, hm⟩, ⟨pf, H_this_past, hp⟩, ⟨tf, H_this_typed, htf⟩, ⟨⟨ns, H_this_newSizes⟩, nl, H_this_newLetters⟩, ⟨⟨wd, H_this_wide⟩, HM, ⟨be, H_this_begins⟩, wi, H_this_with⟩, ⟨se, H_this_seen, hse⟩, ⟨bo, H_this_book, hbo⟩, ⟨⟨bb, H_this_beginsBy⟩, ib, H_this_isBy⟩, imf, kp, H_this_images, H_this_isKept, hi0, hi1⟩ := id HR
  obtain ⟨k2, k3, k5, k6, k19, k21⟩ := K
  obtain ⟨HT, hty, hfa, hpo, hsd, hg0, hg1, hsu, hbk⟩ := id HO
  have hN : T.1.length ≤ 40 := HT.1.1
  have e0 : sf (0 : Int).toNat = (T.1.length : Int) := hm.1
  refine eb_T.of (by decide +kernel) (Nat.le_of_ble_eq_true rfl) ?_
  show eb_V _ _ 0 [.ref 67, .int (eb_I 4)] [] (n, 0, 0) h _
  refine V_iload_n eX10_told_0 rfl rfl ?_
  refine V_tswIn (tgt := 92) (off := 91) eX10_told_1 (by omega) (by omega) rfl rfl ?_
  refine V_aload_n eX10_told_92 rfl rfl ?_
  refine V_getf eX10_told_93 H_this rfl ?_
  refine V_iload_n eX10_told_96 rfl rfl ?_
  refine V_iald eX10_told_97 H_this_st (by omega) ?_
  rw [(show sf (4 : Int).toNat = T.2.2.2.2 from hm.2.2.2.2.1)]
  exact V_iret eX10_told_98 ⟨Nat.zero_le _, Nat.zero_le _⟩ rfl (rfl) (⟨rfl, rfl, ⟨cc, HR⟩, fun _ _ => rfl⟩)
theorem x10_told_5 (HR : MR h T ty fa past seed i0 i1 sees book) (HO : SOK T ty fa past seed i0 i1 sees book) : eb_T mX10_told [.ref 67, .int (eb_I 5)] n h (eb_G (some (.int (eb_I ((ty.length : Int))))) n (fun h' => MR h' T ty fa past seed i0 i1 sees book ∧ L67 h h')) := by
  obtain ⟨cc, HR⟩ := HR
  obtain ⟨H_this, K, ⟨sf, H_this_st, hm⟩, ⟨pf, H_this_past, hp⟩, ⟨tf, H_this_typed, htf⟩, ⟨⟨ns, H_this_newSizes⟩, nl, H_this_newLetters⟩, ⟨⟨wd, H_this_wide⟩, HM, ⟨be, H_this_begins⟩, wi, H_this_with⟩, ⟨se, H_this_seen, hse⟩, ⟨bo, H_this_book, hbo⟩, ⟨⟨bb, H_this_beginsBy⟩, ib, H_this_isBy⟩, imf, kp, H_this_images, H_this_isKept, hi0, hi1⟩ := id HR
  obtain ⟨k2, k3, k5, k6, k19, k21⟩ := K
  obtain ⟨HT, hty, hfa, hpo, hsd, hg0, hg1, hsu, hbk⟩ := id HO
  have hN : T.1.length ≤ 40 := HT.1.1
  have e0 : sf (0 : Int).toNat = (T.1.length : Int) := hm.1
  refine eb_T.of (by decide +kernel) (Nat.le_of_ble_eq_true rfl) ?_
  show eb_V _ _ 0 [.ref 67, .int (eb_I 5)] [] (n, 0, 0) h _
  refine V_iload_n eX10_told_0 rfl rfl ?_
  refine V_tswIn (tgt := 99) (off := 98) eX10_told_1 (by omega) (by omega) rfl rfl ?_
  refine V_aload_n eX10_told_99 rfl rfl ?_
  refine V_getf eX10_told_100 H_this rfl ?_
  rw [k5]
  exact V_iret eX10_told_103 ⟨Nat.zero_le _, Nat.zero_le _⟩ rfl (rfl) (⟨rfl, rfl, ⟨cc, HR⟩, fun _ _ => rfl⟩)
theorem x10_told_11 (HR : MR h T ty fa past seed i0 i1 sees book) (HO : SOK T ty fa past seed i0 i1 sees book) : eb_T mX10_told [.ref 67, .int (eb_I 11)] n h (eb_G (some (.int (eb_I ((sees.length : Int))))) n (fun h' => MR h' T ty fa past seed i0 i1 sees book ∧ L67 h h')) := by
  obtain ⟨cc, HR⟩ := HR
  obtain ⟨H_this, K, ⟨sf, H_this_st, hm⟩, ⟨pf, H_this_past, hp⟩, ⟨tf, H_this_typed, htf⟩, ⟨⟨ns, H_this_newSizes⟩, nl, H_this_newLetters⟩, ⟨⟨wd, H_this_wide⟩, HM, ⟨be, H_this_begins⟩, wi, H_this_with⟩, ⟨se, H_this_seen, hse⟩, ⟨bo, H_this_book, hbo⟩, ⟨⟨bb, H_this_beginsBy⟩, ib, H_this_isBy⟩, imf, kp, H_this_images, H_this_isKept, hi0, hi1⟩ := id HR
  obtain ⟨k2, k3, k5, k6, k19, k21⟩ := K
  obtain ⟨HT, hty, hfa, hpo, hsd, hg0, hg1, hsu, hbk⟩ := id HO
  have hN : T.1.length ≤ 40 := HT.1.1
  have e0 : sf (0 : Int).toNat = (T.1.length : Int) := hm.1
  refine eb_T.of (by decide +kernel) (Nat.le_of_ble_eq_true rfl) ?_
  show eb_V _ _ 0 [.ref 67, .int (eb_I 11)] [] (n, 0, 0) h _
  refine V_iload_n eX10_told_0 rfl rfl ?_
  refine V_tswIn (tgt := 132) (off := 131) eX10_told_1 (by omega) (by omega) rfl rfl ?_
  refine V_aload_n eX10_told_132 rfl rfl ?_
  refine V_getf eX10_told_133 H_this rfl ?_
  rw [k19]
  exact V_iret eX10_told_136 ⟨Nat.zero_le _, Nat.zero_le _⟩ rfl (rfl) (⟨rfl, rfl, ⟨cc, HR⟩, fun _ _ => rfl⟩)
theorem x10_told_16 (HR : MR h T ty fa past seed i0 i1 sees book) (HO : SOK T ty fa past seed i0 i1 sees book) : eb_T mX10_told [.ref 67, .int (eb_I 16)] n h (eb_G (some (.int (eb_I ((book.length : Int))))) n (fun h' => MR h' T ty fa past seed i0 i1 sees book ∧ L67 h h')) := by
  obtain ⟨cc, HR⟩ := HR
  obtain ⟨H_this, K, ⟨sf, H_this_st, hm⟩, ⟨pf, H_this_past, hp⟩, ⟨tf, H_this_typed, htf⟩, ⟨⟨ns, H_this_newSizes⟩, nl, H_this_newLetters⟩, ⟨⟨wd, H_this_wide⟩, HM, ⟨be, H_this_begins⟩, wi, H_this_with⟩, ⟨se, H_this_seen, hse⟩, ⟨bo, H_this_book, hbo⟩, ⟨⟨bb, H_this_beginsBy⟩, ib, H_this_isBy⟩, imf, kp, H_this_images, H_this_isKept, hi0, hi1⟩ := id HR
  obtain ⟨k2, k3, k5, k6, k19, k21⟩ := K
  obtain ⟨HT, hty, hfa, hpo, hsd, hg0, hg1, hsu, hbk⟩ := id HO
  have hN : T.1.length ≤ 40 := HT.1.1
  have e0 : sf (0 : Int).toNat = (T.1.length : Int) := hm.1
  refine eb_T.of (by decide +kernel) (Nat.le_of_ble_eq_true rfl) ?_
  show eb_V _ _ 0 [.ref 67, .int (eb_I 16)] [] (n, 0, 0) h _
  refine V_iload_n eX10_told_0 rfl rfl ?_
  refine V_tswIn (tgt := 148) (off := 147) eX10_told_1 (by omega) (by omega) rfl rfl ?_
  refine V_aload_n eX10_told_148 rfl rfl ?_
  refine V_getf eX10_told_149 H_this rfl ?_
  rw [k21]
  exact V_iret eX10_told_152 ⟨Nat.zero_le _, Nat.zero_le _⟩ rfl (rfl) (⟨rfl, rfl, ⟨cc, HR⟩, fun _ _ => rfl⟩)
theorem x10_told_18 (HR : MR h T ty fa past seed i0 i1 sees book) (HO : SOK T ty fa past seed i0 i1 sees book) : eb_T mX10_told [.ref 67, .int (eb_I 18)] n h (eb_G (some (.int (eb_I ((past.length : Int))))) n (fun h' => MR h' T ty fa past seed i0 i1 sees book ∧ L67 h h')) := by
  obtain ⟨cc, HR⟩ := HR
  obtain ⟨H_this, K, ⟨sf, H_this_st, hm⟩, ⟨pf, H_this_past, hp⟩, ⟨tf, H_this_typed, htf⟩, ⟨⟨ns, H_this_newSizes⟩, nl, H_this_newLetters⟩, ⟨⟨wd, H_this_wide⟩, HM, ⟨be, H_this_begins⟩, wi, H_this_with⟩, ⟨se, H_this_seen, hse⟩, ⟨bo, H_this_book, hbo⟩, ⟨⟨bb, H_this_beginsBy⟩, ib, H_this_isBy⟩, imf, kp, H_this_images, H_this_isKept, hi0, hi1⟩ := id HR
  obtain ⟨k2, k3, k5, k6, k19, k21⟩ := K
  obtain ⟨HT, hty, hfa, hpo, hsd, hg0, hg1, hsu, hbk⟩ := id HO
  have hN : T.1.length ≤ 40 := HT.1.1
  have e0 : sf (0 : Int).toNat = (T.1.length : Int) := hm.1
  refine eb_T.of (by decide +kernel) (Nat.le_of_ble_eq_true rfl) ?_
  show eb_V _ _ 0 [.ref 67, .int (eb_I 18)] [] (n, 0, 0) h _
  refine V_iload_n eX10_told_0 rfl rfl ?_
  refine V_tswIn (tgt := 158) (off := 157) eX10_told_1 (by omega) (by omega) rfl rfl ?_
  refine V_aload_n eX10_told_158 rfl rfl ?_
  refine V_getf eX10_told_159 H_this rfl ?_
  rw [k2]
  exact V_iret eX10_told_162 ⟨Nat.zero_le _, Nat.zero_le _⟩ rfl (rfl) (⟨rfl, rfl, ⟨cc, HR⟩, fun _ _ => rfl⟩)
theorem x10_told_out {w : Int} (HR : MR h T ty fa past seed i0 i1 sees book) (HO : SOK T ty fa past seed i0 i1 sees book) (hw : -2147483648 ≤ w ∧ w ≤ 2147483647) (hc : ¬ (0 ≤ w ∧ w ≤ 18)) : eb_T mX10_told [.ref 67, .int (eb_I w)] n h (eb_G (some (.int (eb_I (-1000000002)))) n (fun h' => MR h' T ty fa past seed i0 i1 sees book ∧ L67 h h')) := by
  obtain ⟨cc, HR⟩ := HR
  obtain ⟨H_this, K, ⟨sf, H_this_st, hm⟩, ⟨pf, H_this_past, hp⟩, ⟨tf, H_this_typed, htf⟩, ⟨⟨ns, H_this_newSizes⟩, nl, H_this_newLetters⟩, ⟨⟨wd, H_this_wide⟩, HM, ⟨be, H_this_begins⟩, wi, H_this_with⟩, ⟨se, H_this_seen, hse⟩, ⟨bo, H_this_book, hbo⟩, ⟨⟨bb, H_this_beginsBy⟩, ib, H_this_isBy⟩, imf, kp, H_this_images, H_this_isKept, hi0, hi1⟩ := id HR
  obtain ⟨k2, k3, k5, k6, k19, k21⟩ := K
  obtain ⟨HT, hty, hfa, hpo, hsd, hg0, hg1, hsu, hbk⟩ := id HO
  have hN : T.1.length ≤ 40 := HT.1.1
  have e0 : sf (0 : Int).toNat = (T.1.length : Int) := hm.1
  refine eb_T.of (by decide +kernel) (Nat.le_of_ble_eq_true rfl) ?_
  show eb_V _ _ 0 [.ref 67, .int (eb_I w)] [] (n, 0, 0) h _
  refine V_iload_n eX10_told_0 rfl rfl ?_
  refine V_tswOut (tgt := 163) eX10_told_1 (by omega) (by omega) rfl ?_
  refine V_ldc (a := -1000000002) eX10_told_163 wd_801 (by decide) ?_
  exact V_iret eX10_told_165 ⟨Nat.zero_le _, Nat.zero_le _⟩ rfl (rfl) (⟨rfl, rfl, ⟨cc, HR⟩, fun _ _ => rfl⟩)
theorem x10_toldL_6 (HR : MR h T ty fa past seed i0 i1 sees book) (HO : SOK T ty fa past seed i0 i1 sees book) : eb_T mX10_toldLines [.ref 67, .int (eb_I 6)] n h (eb_G (some (.int (eb_I (dp_t (lt_c (txq T)) T.1.length)))) n (fun h' => MR h' T ty fa past seed i0 i1 sees book ∧ L67 h h')) := by
  obtain ⟨cc, HR⟩ := HR
  obtain ⟨H_this, K, ⟨sf, H_this_st, hm⟩, ⟨pf, H_this_past, hp⟩, ⟨tf, H_this_typed, htf⟩, ⟨⟨ns, H_this_newSizes⟩, nl, H_this_newLetters⟩, ⟨⟨wd, H_this_wide⟩, HM, ⟨be, H_this_begins⟩, wi, H_this_with⟩, ⟨se, H_this_seen, hse⟩, ⟨bo, H_this_book, hbo⟩, ⟨⟨bb, H_this_beginsBy⟩, ib, H_this_isBy⟩, imf, kp, H_this_images, H_this_isKept, hi0, hi1⟩ := id HR
  obtain ⟨k2, k3, k5, k6, k19, k21⟩ := K
  obtain ⟨HT, hty, hfa, hpo, hsd, hg0, hg1, hsu, hbk⟩ := id HO
  have hN : T.1.length ≤ 40 := HT.1.1
  have e0 : sf (0 : Int).toNat = (T.1.length : Int) := hm.1
  refine eb_T.of (by decide +kernel) (Nat.le_of_ble_eq_true rfl) ?_
  show eb_V _ _ 0 [.ref 67, .int (eb_I 6)] [] (n, 0, 0) h _
  have TL := c_X10_layLines (n := n) H_this H_this_st hm HT H_this_wide HM H_this_begins
  refine V_aload_n eX10_toldLines_0 rfl rfl ?_
  refine V_cvg eX10_toldLines_1 (TL) H_this rfl rfl (Nat.le_of_ble_eq_true rfl) ⟨rfl, rfl⟩ ⟨Nat.zero_le _, Nat.zero_le _⟩ (fun h1 ⟨HL1, hfr1⟩ => ?_)
  show eb_V _ _ 4 _ [] _ _ _
  obtain ⟨⟨G1, be1, G2, G3, G3b⟩, ⟨up, co, to, ow, U, C, O, W, q1, q2, q3, q4⟩, G4⟩ := id HL1
  have H_this := G1
  have H_this_begins := G2
  have H_this_upTo := U
  have H_this_costs := C
  have H_this_totals := O
  have H_this_owners := W
  have H_this_st : h1 68 = _ := (hfr1 68 (by omega) (by omega)).trans H_this_st
  refine V_iload_n eX10_toldLines_4 rfl rfl ?_
  refine V_bipush eX10_toldLines_5 (by decide) ?_
  refine V_icmp_ne (tgt := 24) eX10_toldLines_7 rfl (by omega) (fun c_7 => ?_) (fun c_7 => ?_)
  · exact absurd rfl c_7
  · refine V_aload_n eX10_toldLines_10 rfl rfl ?_
    refine V_getf eX10_toldLines_11 H_this rfl ?_
    refine V_aload_n eX10_toldLines_14 rfl rfl ?_
    refine V_getf eX10_toldLines_15 H_this rfl ?_
    refine V_iconst eX10_toldLines_18 ?_
    refine V_iald eX10_toldLines_19 H_this_st (by omega) ?_
    rw [e0]
    refine V_iald eX10_toldLines_20 H_this_totals (by omega) ?_
    rw [Int.toNat_natCast, q3 _ (Nat.le_refl _)]
    refine V_goto (tgt := 28) eX10_toldLines_21 rfl ?_
    exact V_iret eX10_toldLines_28 ⟨Nat.zero_le _, Nat.zero_le _⟩ rfl (rfl) (⟨rfl, rfl, HR.lines HL1 hfr1⟩)
theorem x10_told_6 (HR : MR h T ty fa past seed i0 i1 sees book) (HO : SOK T ty fa past seed i0 i1 sees book) : eb_T mX10_told [.ref 67, .int (eb_I 6)] n h (eb_G (some (.int (eb_I (dp_t (lt_c (txq T)) T.1.length)))) n (fun h' => MR h' T ty fa past seed i0 i1 sees book ∧ L67 h h')) := by
  obtain ⟨cc, HR⟩ := HR
  obtain ⟨H_this, K, ⟨sf, H_this_st, hm⟩, ⟨pf, H_this_past, hp⟩, ⟨tf, H_this_typed, htf⟩, ⟨⟨ns, H_this_newSizes⟩, nl, H_this_newLetters⟩, ⟨⟨wd, H_this_wide⟩, HM, ⟨be, H_this_begins⟩, wi, H_this_with⟩, ⟨se, H_this_seen, hse⟩, ⟨bo, H_this_book, hbo⟩, ⟨⟨bb, H_this_beginsBy⟩, ib, H_this_isBy⟩, imf, kp, H_this_images, H_this_isKept, hi0, hi1⟩ := id HR
  obtain ⟨k2, k3, k5, k6, k19, k21⟩ := K
  obtain ⟨HT, hty, hfa, hpo, hsd, hg0, hg1, hsu, hbk⟩ := id HO
  have hN : T.1.length ≤ 40 := HT.1.1
  have e0 : sf (0 : Int).toNat = (T.1.length : Int) := hm.1
  refine eb_T.of (by decide +kernel) (Nat.le_of_ble_eq_true rfl) ?_
  show eb_V _ _ 0 [.ref 67, .int (eb_I 6)] [] (n, 0, 0) h _
  refine V_iload_n eX10_told_0 rfl rfl ?_
  refine V_tswIn (tgt := 104) (off := 103) eX10_told_1 (by omega) (by omega) rfl rfl ?_
  refine V_aload_n eX10_told_104 rfl rfl ?_
  refine V_iload_n eX10_told_105 rfl rfl ?_
  refine V_cvg eX10_told_106 (x10_toldL_6 (n := n) ⟨cc, HR⟩ HO) H_this rfl rfl (Nat.le_of_ble_eq_true rfl) ⟨rfl, rfl⟩ ⟨Nat.zero_le _, Nat.zero_le _⟩ (fun h1 hh => ?_)
  show eb_V _ _ 109 _ [.int (eb_I _)] _ _ _
  exact V_iret eX10_told_109 ⟨Nat.zero_le _, Nat.zero_le _⟩ rfl (rfl) (⟨rfl, rfl, hh⟩)
theorem x10_toldL_7 (HR : MR h T ty fa past seed i0 i1 sees book) (HO : SOK T ty fa past seed i0 i1 sees book) : eb_T mX10_toldLines [.ref 67, .int (eb_I 7)] n h (eb_G (some (.int (eb_I (((lt_B (txq T)).length : Int))))) n (fun h' => MR h' T ty fa past seed i0 i1 sees book ∧ L67 h h')) := by
  obtain ⟨cc, HR⟩ := HR
  obtain ⟨H_this, K, ⟨sf, H_this_st, hm⟩, ⟨pf, H_this_past, hp⟩, ⟨tf, H_this_typed, htf⟩, ⟨⟨ns, H_this_newSizes⟩, nl, H_this_newLetters⟩, ⟨⟨wd, H_this_wide⟩, HM, ⟨be, H_this_begins⟩, wi, H_this_with⟩, ⟨se, H_this_seen, hse⟩, ⟨bo, H_this_book, hbo⟩, ⟨⟨bb, H_this_beginsBy⟩, ib, H_this_isBy⟩, imf, kp, H_this_images, H_this_isKept, hi0, hi1⟩ := id HR
  obtain ⟨k2, k3, k5, k6, k19, k21⟩ := K
  obtain ⟨HT, hty, hfa, hpo, hsd, hg0, hg1, hsu, hbk⟩ := id HO
  have hN : T.1.length ≤ 40 := HT.1.1
  have e0 : sf (0 : Int).toNat = (T.1.length : Int) := hm.1
  refine eb_T.of (by decide +kernel) (Nat.le_of_ble_eq_true rfl) ?_
  show eb_V _ _ 0 [.ref 67, .int (eb_I 7)] [] (n, 0, 0) h _
  have TL := c_X10_layLines (n := n) H_this H_this_st hm HT H_this_wide HM H_this_begins
  refine V_aload_n eX10_toldLines_0 rfl rfl ?_
  refine V_cvg eX10_toldLines_1 (TL) H_this rfl rfl (Nat.le_of_ble_eq_true rfl) ⟨rfl, rfl⟩ ⟨Nat.zero_le _, Nat.zero_le _⟩ (fun h1 ⟨HL1, hfr1⟩ => ?_)
  show eb_V _ _ 4 _ [] _ _ _
  obtain ⟨⟨G1, be1, G2, G3, G3b⟩, ⟨up, co, to, ow, U, C, O, W, q1, q2, q3, q4⟩, G4⟩ := id HL1
  have H_this := G1
  have H_this_begins := G2
  have H_this_upTo := U
  have H_this_costs := C
  have H_this_totals := O
  have H_this_owners := W
  have H_this_st : h1 68 = _ := (hfr1 68 (by omega) (by omega)).trans H_this_st
  refine V_iload_n eX10_toldLines_4 rfl rfl ?_
  refine V_bipush eX10_toldLines_5 (by decide) ?_
  refine V_icmp_ne (tgt := 24) eX10_toldLines_7 rfl (by omega) (fun c_7 => ?_) (fun c_7 => ?_)
  · refine V_aload_n eX10_toldLines_24 rfl rfl ?_
    refine V_getf eX10_toldLines_25 H_this rfl ?_
    show eb_V _ _ 28 _ [.int (eb_I ((lt_B (txq T)).length : Int))] _ _ _
    exact V_iret eX10_toldLines_28 ⟨Nat.zero_le _, Nat.zero_le _⟩ rfl (rfl) (⟨rfl, rfl, HR.lines HL1 hfr1⟩)
  · exact absurd c_7 (by decide)
theorem x10_told_7 (HR : MR h T ty fa past seed i0 i1 sees book) (HO : SOK T ty fa past seed i0 i1 sees book) : eb_T mX10_told [.ref 67, .int (eb_I 7)] n h (eb_G (some (.int (eb_I (((lt_B (txq T)).length : Int))))) n (fun h' => MR h' T ty fa past seed i0 i1 sees book ∧ L67 h h')) := by
  obtain ⟨cc, HR⟩ := HR
  obtain ⟨H_this, K, ⟨sf, H_this_st, hm⟩, ⟨pf, H_this_past, hp⟩, ⟨tf, H_this_typed, htf⟩, ⟨⟨ns, H_this_newSizes⟩, nl, H_this_newLetters⟩, ⟨⟨wd, H_this_wide⟩, HM, ⟨be, H_this_begins⟩, wi, H_this_with⟩, ⟨se, H_this_seen, hse⟩, ⟨bo, H_this_book, hbo⟩, ⟨⟨bb, H_this_beginsBy⟩, ib, H_this_isBy⟩, imf, kp, H_this_images, H_this_isKept, hi0, hi1⟩ := id HR
  obtain ⟨k2, k3, k5, k6, k19, k21⟩ := K
  obtain ⟨HT, hty, hfa, hpo, hsd, hg0, hg1, hsu, hbk⟩ := id HO
  have hN : T.1.length ≤ 40 := HT.1.1
  have e0 : sf (0 : Int).toNat = (T.1.length : Int) := hm.1
  refine eb_T.of (by decide +kernel) (Nat.le_of_ble_eq_true rfl) ?_
  show eb_V _ _ 0 [.ref 67, .int (eb_I 7)] [] (n, 0, 0) h _
  refine V_iload_n eX10_told_0 rfl rfl ?_
  refine V_tswIn (tgt := 104) (off := 103) eX10_told_1 (by omega) (by omega) rfl rfl ?_
  refine V_aload_n eX10_told_104 rfl rfl ?_
  refine V_iload_n eX10_told_105 rfl rfl ?_
  refine V_cvg eX10_told_106 (x10_toldL_7 (n := n) ⟨cc, HR⟩ HO) H_this rfl rfl (Nat.le_of_ble_eq_true rfl) ⟨rfl, rfl⟩ ⟨Nat.zero_le _, Nat.zero_le _⟩ (fun h1 hh => ?_)
  show eb_V _ _ 109 _ [.int (eb_I _)] _ _ _
  exact V_iret eX10_told_109 ⟨Nat.zero_le _, Nat.zero_le _⟩ rfl (rfl) (⟨rfl, rfl, hh⟩)
theorem x10_toldM_12 (HR : MR h T ty fa past seed i0 i1 sees book) (HO : SOK T ty fa past seed i0 i1 sees book) : eb_T mX10_toldMeasures [.ref 67, .int (eb_I 12)] n h (eb_G (some (.int (eb_I (sm (su_F (fun m => br_mk (lt_B (TXq T m))) sees) 1 200)))) n (fun h' => MR h' T ty fa past seed i0 i1 sees book ∧ L67 h h')) := by
  obtain ⟨cc, HR⟩ := HR
  obtain ⟨H_this, K, ⟨sf, H_this_st, hm⟩, ⟨pf, H_this_past, hp⟩, ⟨tf, H_this_typed, htf⟩, ⟨⟨ns, H_this_newSizes⟩, nl, H_this_newLetters⟩, ⟨⟨wd, H_this_wide⟩, HM, ⟨be, H_this_begins⟩, wi, H_this_with⟩, ⟨se, H_this_seen, hse⟩, ⟨bo, H_this_book, hbo⟩, ⟨⟨bb, H_this_beginsBy⟩, ib, H_this_isBy⟩, imf, kp, H_this_images, H_this_isKept, hi0, hi1⟩ := id HR
  obtain ⟨k2, k3, k5, k6, k19, k21⟩ := K
  obtain ⟨HT, hty, hfa, hpo, hsd, hg0, hg1, hsu, hbk⟩ := id HO
  have hN : T.1.length ≤ 40 := HT.1.1
  have e0 : sf (0 : Int).toNat = (T.1.length : Int) := hm.1
  refine eb_T.of (by decide +kernel) (Nat.le_of_ble_eq_true rfl) ?_
  show eb_V _ _ 0 [.ref 67, .int (eb_I 12)] [] (n, 0, 0) h _
  have TL := c_X10_layMeasures (n := n) H_this H_this_st hm HT H_this_wide HM H_this_begins H_this_seen hsu k19 hse H_this_beginsBy H_this_isBy
  refine V_aload_n eX10_toldMeasures_0 rfl rfl ?_
  refine V_cvg eX10_toldMeasures_1 (TL) H_this rfl rfl (Nat.le_of_ble_eq_true rfl) ⟨rfl, rfl⟩ ⟨Nat.zero_le _, Nat.zero_le _⟩ (fun h1 ⟨⟨⟨c2, bb2, ib2, a1, a2, a3, a4, a5⟩, a6, a7, a8⟩, a9⟩ => ?_)
  show eb_V _ _ 4 _ [] _ _ _
  have H_this := a1
  refine V_iload_n eX10_toldMeasures_4 rfl rfl ?_
  refine V_bipush eX10_toldMeasures_5 (by decide) ?_
  refine V_icmp_ne (tgt := 17) eX10_toldMeasures_7 rfl (by omega) (fun c_7 => ?_) (fun c_7 => ?_)
  · exact absurd rfl c_7
  · refine V_aload_n eX10_toldMeasures_10 rfl rfl ?_
    refine V_getf eX10_toldMeasures_11 H_this rfl ?_
    rw [a2.2.1]
    refine V_goto (tgt := 34) eX10_toldMeasures_14 rfl ?_
    exact V_iret eX10_toldMeasures_34 ⟨Nat.zero_le _, Nat.zero_le _⟩ rfl (rfl) (⟨rfl, rfl, HR.bys a1 a2.1 a6 a7 a8 ⟨_, a3⟩ ⟨_, a4⟩ a9⟩)
theorem x10_toldM_13 {v : Int} (HR : MR h T ty fa past seed i0 i1 sees book) (HO : SOK T ty fa past seed i0 i1 sees book) (hv : lc (fun m => (1 ≤ m ∧ m ≤ 200) ∧ ft ((fun m => br_mk (lt_B (TXq T m))) m) sees = true) v) : eb_T mX10_toldMeasures [.ref 67, .int (eb_I 13)] n h (eb_G (some (.int (eb_I (v)))) n (fun h' => MR h' T ty fa past seed i0 i1 sees book ∧ L67 h h')) := by
  obtain ⟨cc, HR⟩ := HR
  obtain ⟨H_this, K, ⟨sf, H_this_st, hm⟩, ⟨pf, H_this_past, hp⟩, ⟨tf, H_this_typed, htf⟩, ⟨⟨ns, H_this_newSizes⟩, nl, H_this_newLetters⟩, ⟨⟨wd, H_this_wide⟩, HM, ⟨be, H_this_begins⟩, wi, H_this_with⟩, ⟨se, H_this_seen, hse⟩, ⟨bo, H_this_book, hbo⟩, ⟨⟨bb, H_this_beginsBy⟩, ib, H_this_isBy⟩, imf, kp, H_this_images, H_this_isKept, hi0, hi1⟩ := id HR
  obtain ⟨k2, k3, k5, k6, k19, k21⟩ := K
  obtain ⟨HT, hty, hfa, hpo, hsd, hg0, hg1, hsu, hbk⟩ := id HO
  have hN : T.1.length ≤ 40 := HT.1.1
  have e0 : sf (0 : Int).toNat = (T.1.length : Int) := hm.1
  refine eb_T.of (by decide +kernel) (Nat.le_of_ble_eq_true rfl) ?_
  show eb_V _ _ 0 [.ref 67, .int (eb_I 13)] [] (n, 0, 0) h _
  have TL := c_X10_layMeasures (n := n) H_this H_this_st hm HT H_this_wide HM H_this_begins H_this_seen hsu k19 hse H_this_beginsBy H_this_isBy
  have un : ∀ m, ((1 ≤ m ∧ m < 201) ∧ ft (bmT T m) sees = true) ↔ ((1 ≤ m ∧ m ≤ 200) ∧ ft ((fun m => br_mk (lt_B (TXq T m))) m) sees = true) := fun m => ⟨fun z => ⟨⟨z.1.1, by omega⟩, z.2⟩, fun z => ⟨⟨z.1.1, by omega⟩, z.2⟩⟩
  refine V_aload_n eX10_toldMeasures_0 rfl rfl ?_
  refine V_cvg eX10_toldMeasures_1 (TL) H_this rfl rfl (Nat.le_of_ble_eq_true rfl) ⟨rfl, rfl⟩ ⟨Nat.zero_le _, Nat.zero_le _⟩ (fun h1 ⟨⟨⟨c2, bb2, ib2, a1, a2, a3, a4, a5⟩, a6, a7, a8⟩, a9⟩ => ?_)
  show eb_V _ _ 4 _ [] _ _ _
  have H_this := a1
  have ev : c2 25 = v := lc_un (lc_iff un a2.2.2.1) hv
  refine V_iload_n eX10_toldMeasures_4 rfl rfl ?_
  refine V_bipush eX10_toldMeasures_5 (by decide) ?_
  refine V_icmp_ne (tgt := 17) eX10_toldMeasures_7 rfl (by omega) (fun c_7 => ?_) (fun c_7 => ?_)
  · refine V_iload_n eX10_toldMeasures_17 rfl rfl ?_
    refine V_bipush eX10_toldMeasures_18 (by decide) ?_
    refine V_icmp_ne (tgt := 30) eX10_toldMeasures_20 rfl (by omega) (fun c_20 => ?_) (fun c_20 => ?_)
    · exact absurd rfl c_20
    · refine V_aload_n eX10_toldMeasures_23 rfl rfl ?_
      refine V_getf eX10_toldMeasures_24 H_this rfl ?_
      rw [ev]
      refine V_goto (tgt := 34) eX10_toldMeasures_27 rfl ?_
      exact V_iret eX10_toldMeasures_34 ⟨Nat.zero_le _, Nat.zero_le _⟩ rfl (rfl) (⟨rfl, rfl, HR.bys a1 a2.1 a6 a7 a8 ⟨_, a3⟩ ⟨_, a4⟩ a9⟩)
  · exact absurd c_7 (by decide)
theorem x10_toldM_14 {v : Int} (HR : MR h T ty fa past seed i0 i1 sees book) (HO : SOK T ty fa past seed i0 i1 sees book) (hv : gc (fun m => (1 ≤ m ∧ m ≤ 200) ∧ ft ((fun m => br_mk (lt_B (TXq T m))) m) sees = true) v) : eb_T mX10_toldMeasures [.ref 67, .int (eb_I 14)] n h (eb_G (some (.int (eb_I (v)))) n (fun h' => MR h' T ty fa past seed i0 i1 sees book ∧ L67 h h')) := by
  obtain ⟨cc, HR⟩ := HR
  obtain ⟨H_this, K, ⟨sf, H_this_st, hm⟩, ⟨pf, H_this_past, hp⟩, ⟨tf, H_this_typed, htf⟩, ⟨⟨ns, H_this_newSizes⟩, nl, H_this_newLetters⟩, ⟨⟨wd, H_this_wide⟩, HM, ⟨be, H_this_begins⟩, wi, H_this_with⟩, ⟨se, H_this_seen, hse⟩, ⟨bo, H_this_book, hbo⟩, ⟨⟨bb, H_this_beginsBy⟩, ib, H_this_isBy⟩, imf, kp, H_this_images, H_this_isKept, hi0, hi1⟩ := id HR
  obtain ⟨k2, k3, k5, k6, k19, k21⟩ := K
  obtain ⟨HT, hty, hfa, hpo, hsd, hg0, hg1, hsu, hbk⟩ := id HO
  have hN : T.1.length ≤ 40 := HT.1.1
  have e0 : sf (0 : Int).toNat = (T.1.length : Int) := hm.1
  refine eb_T.of (by decide +kernel) (Nat.le_of_ble_eq_true rfl) ?_
  show eb_V _ _ 0 [.ref 67, .int (eb_I 14)] [] (n, 0, 0) h _
  have TL := c_X10_layMeasures (n := n) H_this H_this_st hm HT H_this_wide HM H_this_begins H_this_seen hsu k19 hse H_this_beginsBy H_this_isBy
  have un : ∀ m, ((1 ≤ m ∧ m < 201) ∧ ft (bmT T m) sees = true) ↔ ((1 ≤ m ∧ m ≤ 200) ∧ ft ((fun m => br_mk (lt_B (TXq T m))) m) sees = true) := fun m => ⟨fun z => ⟨⟨z.1.1, by omega⟩, z.2⟩, fun z => ⟨⟨z.1.1, by omega⟩, z.2⟩⟩
  refine V_aload_n eX10_toldMeasures_0 rfl rfl ?_
  refine V_cvg eX10_toldMeasures_1 (TL) H_this rfl rfl (Nat.le_of_ble_eq_true rfl) ⟨rfl, rfl⟩ ⟨Nat.zero_le _, Nat.zero_le _⟩ (fun h1 ⟨⟨⟨c2, bb2, ib2, a1, a2, a3, a4, a5⟩, a6, a7, a8⟩, a9⟩ => ?_)
  show eb_V _ _ 4 _ [] _ _ _
  have H_this := a1
  have ev : c2 26 = v := gc_un (gc_iff un a2.2.2.2) hv
  refine V_iload_n eX10_toldMeasures_4 rfl rfl ?_
  refine V_bipush eX10_toldMeasures_5 (by decide) ?_
  refine V_icmp_ne (tgt := 17) eX10_toldMeasures_7 rfl (by omega) (fun c_7 => ?_) (fun c_7 => ?_)
  · refine V_iload_n eX10_toldMeasures_17 rfl rfl ?_
    refine V_bipush eX10_toldMeasures_18 (by decide) ?_
    refine V_icmp_ne (tgt := 30) eX10_toldMeasures_20 rfl (by omega) (fun c_20 => ?_) (fun c_20 => ?_)
    · refine V_aload_n eX10_toldMeasures_30 rfl rfl ?_
      refine V_getf eX10_toldMeasures_31 H_this rfl ?_
      rw [ev]
      exact V_iret eX10_toldMeasures_34 ⟨Nat.zero_le _, Nat.zero_le _⟩ rfl (rfl) (⟨rfl, rfl, HR.bys a1 a2.1 a6 a7 a8 ⟨_, a3⟩ ⟨_, a4⟩ a9⟩)
    · exact absurd c_20 (by decide)
  · exact absurd c_7 (by decide)
theorem x10_told_12 (HR : MR h T ty fa past seed i0 i1 sees book) (HO : SOK T ty fa past seed i0 i1 sees book) : eb_T mX10_told [.ref 67, .int (eb_I 12)] n h (eb_G (some (.int (eb_I (sm (su_F (fun m => br_mk (lt_B (TXq T m))) sees) 1 200)))) n (fun h' => MR h' T ty fa past seed i0 i1 sees book ∧ L67 h h')) := by
  obtain ⟨cc, HR⟩ := HR
  obtain ⟨H_this, K, ⟨sf, H_this_st, hm⟩, ⟨pf, H_this_past, hp⟩, ⟨tf, H_this_typed, htf⟩, ⟨⟨ns, H_this_newSizes⟩, nl, H_this_newLetters⟩, ⟨⟨wd, H_this_wide⟩, HM, ⟨be, H_this_begins⟩, wi, H_this_with⟩, ⟨se, H_this_seen, hse⟩, ⟨bo, H_this_book, hbo⟩, ⟨⟨bb, H_this_beginsBy⟩, ib, H_this_isBy⟩, imf, kp, H_this_images, H_this_isKept, hi0, hi1⟩ := id HR
  obtain ⟨k2, k3, k5, k6, k19, k21⟩ := K
  obtain ⟨HT, hty, hfa, hpo, hsd, hg0, hg1, hsu, hbk⟩ := id HO
  have hN : T.1.length ≤ 40 := HT.1.1
  have e0 : sf (0 : Int).toNat = (T.1.length : Int) := hm.1
  refine eb_T.of (by decide +kernel) (Nat.le_of_ble_eq_true rfl) ?_
  show eb_V _ _ 0 [.ref 67, .int (eb_I 12)] [] (n, 0, 0) h _
  refine V_iload_n eX10_told_0 rfl rfl ?_
  refine V_tswIn (tgt := 137) (off := 136) eX10_told_1 (by omega) (by omega) rfl rfl ?_
  refine V_aload_n eX10_told_137 rfl rfl ?_
  refine V_iload_n eX10_told_138 rfl rfl ?_
  refine V_cvg eX10_told_139 (x10_toldM_12 (n := n) ⟨cc, HR⟩ HO) H_this rfl rfl (Nat.le_of_ble_eq_true rfl) ⟨rfl, rfl⟩ ⟨Nat.zero_le _, Nat.zero_le _⟩ (fun h1 hh => ?_)
  show eb_V _ _ 142 _ [.int (eb_I _)] _ _ _
  exact V_iret eX10_told_142 ⟨Nat.zero_le _, Nat.zero_le _⟩ rfl (rfl) (⟨rfl, rfl, hh⟩)
theorem x10_told_13 {v : Int} (HR : MR h T ty fa past seed i0 i1 sees book) (HO : SOK T ty fa past seed i0 i1 sees book) (hv : lc (fun m => (1 ≤ m ∧ m ≤ 200) ∧ ft ((fun m => br_mk (lt_B (TXq T m))) m) sees = true) v) : eb_T mX10_told [.ref 67, .int (eb_I 13)] n h (eb_G (some (.int (eb_I (v)))) n (fun h' => MR h' T ty fa past seed i0 i1 sees book ∧ L67 h h')) := by
  obtain ⟨cc, HR⟩ := HR
  obtain ⟨H_this, K, ⟨sf, H_this_st, hm⟩, ⟨pf, H_this_past, hp⟩, ⟨tf, H_this_typed, htf⟩, ⟨⟨ns, H_this_newSizes⟩, nl, H_this_newLetters⟩, ⟨⟨wd, H_this_wide⟩, HM, ⟨be, H_this_begins⟩, wi, H_this_with⟩, ⟨se, H_this_seen, hse⟩, ⟨bo, H_this_book, hbo⟩, ⟨⟨bb, H_this_beginsBy⟩, ib, H_this_isBy⟩, imf, kp, H_this_images, H_this_isKept, hi0, hi1⟩ := id HR
  obtain ⟨k2, k3, k5, k6, k19, k21⟩ := K
  obtain ⟨HT, hty, hfa, hpo, hsd, hg0, hg1, hsu, hbk⟩ := id HO
  have hN : T.1.length ≤ 40 := HT.1.1
  have e0 : sf (0 : Int).toNat = (T.1.length : Int) := hm.1
  refine eb_T.of (by decide +kernel) (Nat.le_of_ble_eq_true rfl) ?_
  show eb_V _ _ 0 [.ref 67, .int (eb_I 13)] [] (n, 0, 0) h _
  refine V_iload_n eX10_told_0 rfl rfl ?_
  refine V_tswIn (tgt := 137) (off := 136) eX10_told_1 (by omega) (by omega) rfl rfl ?_
  refine V_aload_n eX10_told_137 rfl rfl ?_
  refine V_iload_n eX10_told_138 rfl rfl ?_
  refine V_cvg eX10_told_139 (x10_toldM_13 (n := n) ⟨cc, HR⟩ HO hv) H_this rfl rfl (Nat.le_of_ble_eq_true rfl) ⟨rfl, rfl⟩ ⟨Nat.zero_le _, Nat.zero_le _⟩ (fun h1 hh => ?_)
  show eb_V _ _ 142 _ [.int (eb_I _)] _ _ _
  exact V_iret eX10_told_142 ⟨Nat.zero_le _, Nat.zero_le _⟩ rfl (rfl) (⟨rfl, rfl, hh⟩)
theorem x10_told_14 {v : Int} (HR : MR h T ty fa past seed i0 i1 sees book) (HO : SOK T ty fa past seed i0 i1 sees book) (hv : gc (fun m => (1 ≤ m ∧ m ≤ 200) ∧ ft ((fun m => br_mk (lt_B (TXq T m))) m) sees = true) v) : eb_T mX10_told [.ref 67, .int (eb_I 14)] n h (eb_G (some (.int (eb_I (v)))) n (fun h' => MR h' T ty fa past seed i0 i1 sees book ∧ L67 h h')) := by
  obtain ⟨cc, HR⟩ := HR
  obtain ⟨H_this, K, ⟨sf, H_this_st, hm⟩, ⟨pf, H_this_past, hp⟩, ⟨tf, H_this_typed, htf⟩, ⟨⟨ns, H_this_newSizes⟩, nl, H_this_newLetters⟩, ⟨⟨wd, H_this_wide⟩, HM, ⟨be, H_this_begins⟩, wi, H_this_with⟩, ⟨se, H_this_seen, hse⟩, ⟨bo, H_this_book, hbo⟩, ⟨⟨bb, H_this_beginsBy⟩, ib, H_this_isBy⟩, imf, kp, H_this_images, H_this_isKept, hi0, hi1⟩ := id HR
  obtain ⟨k2, k3, k5, k6, k19, k21⟩ := K
  obtain ⟨HT, hty, hfa, hpo, hsd, hg0, hg1, hsu, hbk⟩ := id HO
  have hN : T.1.length ≤ 40 := HT.1.1
  have e0 : sf (0 : Int).toNat = (T.1.length : Int) := hm.1
  refine eb_T.of (by decide +kernel) (Nat.le_of_ble_eq_true rfl) ?_
  show eb_V _ _ 0 [.ref 67, .int (eb_I 14)] [] (n, 0, 0) h _
  refine V_iload_n eX10_told_0 rfl rfl ?_
  refine V_tswIn (tgt := 137) (off := 136) eX10_told_1 (by omega) (by omega) rfl rfl ?_
  refine V_aload_n eX10_told_137 rfl rfl ?_
  refine V_iload_n eX10_told_138 rfl rfl ?_
  refine V_cvg eX10_told_139 (x10_toldM_14 (n := n) ⟨cc, HR⟩ HO hv) H_this rfl rfl (Nat.le_of_ble_eq_true rfl) ⟨rfl, rfl⟩ ⟨Nat.zero_le _, Nat.zero_le _⟩ (fun h1 hh => ?_)
  show eb_V _ _ 142 _ [.int (eb_I _)] _ _ _
  exact V_iret eX10_told_142 ⟨Nat.zero_le _, Nat.zero_le _⟩ rfl (rfl) (⟨rfl, rfl, hh⟩)
theorem x10_told_15 (HR : MR h T ty fa past seed i0 i1 sees book) (HO : SOK T ty fa past seed i0 i1 sees book) : eb_T mX10_told [.ref 67, .int (eb_I 15)] n h (eb_G (some (.int (eb_I ((lk_F (fun e => sm (su_E (fun m => br_mk (lt_B (TXq T m))) sees e) 1 200) (sm (su_F (fun m => br_mk (lt_B (TXq T m))) sees) 1 200) (T.1.length + 1)).1)))) n (fun h' => MR h' T ty fa past seed i0 i1 sees book ∧ L67 h h')) := by
  obtain ⟨cc, HR⟩ := HR
  obtain ⟨H_this, K, ⟨sf, H_this_st, hm⟩, ⟨pf, H_this_past, hp⟩, ⟨tf, H_this_typed, htf⟩, ⟨⟨ns, H_this_newSizes⟩, nl, H_this_newLetters⟩, ⟨⟨wd, H_this_wide⟩, HM, ⟨be, H_this_begins⟩, wi, H_this_with⟩, ⟨se, H_this_seen, hse⟩, ⟨bo, H_this_book, hbo⟩, ⟨⟨bb, H_this_beginsBy⟩, ib, H_this_isBy⟩, imf, kp, H_this_images, H_this_isKept, hi0, hi1⟩ := id HR
  obtain ⟨k2, k3, k5, k6, k19, k21⟩ := K
  obtain ⟨HT, hty, hfa, hpo, hsd, hg0, hg1, hsu, hbk⟩ := id HO
  have hN : T.1.length ≤ 40 := HT.1.1
  have e0 : sf (0 : Int).toNat = (T.1.length : Int) := hm.1
  refine eb_T.of (by decide +kernel) (Nat.le_of_ble_eq_true rfl) ?_
  show eb_V _ _ 0 [.ref 67, .int (eb_I 15)] [] (n, 0, 0) h _
  have TL := c_X10_lookOf (n := n) H_this H_this_st hm HT H_this_wide HM H_this_begins H_this_seen hsu k19 hse H_this_beginsBy H_this_isBy
  refine V_iload_n eX10_told_0 rfl rfl ?_
  refine V_tswIn (tgt := 143) (off := 142) eX10_told_1 (by omega) (by omega) rfl rfl ?_
  refine V_aload_n eX10_told_143 rfl rfl ?_
  refine V_cvg eX10_told_144 (TL) H_this rfl rfl (Nat.le_of_ble_eq_true rfl) ⟨rfl, rfl⟩ ⟨Nat.zero_le _, Nat.zero_le _⟩ (fun h1 ⟨⟨⟨c2, bb2, ib2, a1, a2, a3, a4⟩, a6, a7, a8⟩, a9⟩ => ?_)
  show eb_V _ _ 147 _ [.int (eb_I _)] _ _ _
  exact V_iret eX10_told_147 ⟨Nat.zero_le _, Nat.zero_le _⟩ rfl (rfl) (⟨rfl, rfl, HR.bys a1 a2 a6 a7 a8 ⟨_, a3⟩ ⟨_, a4⟩ a9⟩)
theorem x10_told_10 (HR : MR h T ty fa past seed i0 i1 sees book) (HO : SOK T ty fa past seed i0 i1 sees book) : eb_T mX10_told [.ref 67, .int (eb_I 10)] n h (eb_G (some (.int (eb_I (rv (lt_pl (tx_wf T.1)) (lt_B (txq T)) T.1.length)))) n (fun h' => MR h' T ty fa past seed i0 i1 sees book ∧ L67 h h')) := by
  obtain ⟨cc, HR⟩ := HR
  obtain ⟨H_this, K, ⟨sf, H_this_st, hm⟩, ⟨pf, H_this_past, hp⟩, ⟨tf, H_this_typed, htf⟩, ⟨⟨ns, H_this_newSizes⟩, nl, H_this_newLetters⟩, ⟨⟨wd, H_this_wide⟩, HM, ⟨be, H_this_begins⟩, wi, H_this_with⟩, ⟨se, H_this_seen, hse⟩, ⟨bo, H_this_book, hbo⟩, ⟨⟨bb, H_this_beginsBy⟩, ib, H_this_isBy⟩, imf, kp, H_this_images, H_this_isKept, hi0, hi1⟩ := id HR
  obtain ⟨k2, k3, k5, k6, k19, k21⟩ := K
  obtain ⟨HT, hty, hfa, hpo, hsd, hg0, hg1, hsu, hbk⟩ := id HO
  have hN : T.1.length ≤ 40 := HT.1.1
  have e0 : sf (0 : Int).toNat = (T.1.length : Int) := hm.1
  refine eb_T.of (by decide +kernel) (Nat.le_of_ble_eq_true rfl) ?_
  show eb_V _ _ 0 [.ref 67, .int (eb_I 10)] [] (n, 0, 0) h _
  have TL := c_X10_rivers (n := n) H_this H_this_st hm HT H_this_wide HM H_this_begins
  refine V_iload_n eX10_told_0 rfl rfl ?_
  refine V_tswIn (tgt := 127) (off := 126) eX10_told_1 (by omega) (by omega) rfl rfl ?_
  refine V_aload_n eX10_told_127 rfl rfl ?_
  refine V_cvg eX10_told_128 (TL) H_this rfl rfl (Nat.le_of_ble_eq_true rfl) ⟨rfl, rfl⟩ ⟨Nat.zero_le _, Nat.zero_le _⟩ (fun h1 ⟨HL1, hfr1⟩ => ?_)
  show eb_V _ _ 131 _ [.int (eb_I _)] _ _ _
  exact V_iret eX10_told_131 ⟨Nat.zero_le _, Nat.zero_le _⟩ rfl (rfl) (⟨rfl, rfl, HR.lines HL1 hfr1⟩)
theorem x10_told_17 (HR : MR h T ty fa past seed i0 i1 sees book) (HO : SOK T ty fa past seed i0 i1 sees book) : eb_T mX10_told [.ref 67, .int (eb_I 17)] n h (eb_G (some (.int (eb_I (bw (lt_B (txq T)) book 0)))) n (fun h' => MR h' T ty fa past seed i0 i1 sees book ∧ L67 h h')) := by
  obtain ⟨cc, HR⟩ := HR
  obtain ⟨H_this, K, ⟨sf, H_this_st, hm⟩, ⟨pf, H_this_past, hp⟩, ⟨tf, H_this_typed, htf⟩, ⟨⟨ns, H_this_newSizes⟩, nl, H_this_newLetters⟩, ⟨⟨wd, H_this_wide⟩, HM, ⟨be, H_this_begins⟩, wi, H_this_with⟩, ⟨se, H_this_seen, hse⟩, ⟨bo, H_this_book, hbo⟩, ⟨⟨bb, H_this_beginsBy⟩, ib, H_this_isBy⟩, imf, kp, H_this_images, H_this_isKept, hi0, hi1⟩ := id HR
  obtain ⟨k2, k3, k5, k6, k19, k21⟩ := K
  obtain ⟨HT, hty, hfa, hpo, hsd, hg0, hg1, hsu, hbk⟩ := id HO
  have hN : T.1.length ≤ 40 := HT.1.1
  have e0 : sf (0 : Int).toNat = (T.1.length : Int) := hm.1
  refine eb_T.of (by decide +kernel) (Nat.le_of_ble_eq_true rfl) ?_
  show eb_V _ _ 0 [.ref 67, .int (eb_I 17)] [] (n, 0, 0) h _
  have TL := c_X10_wrongEntry (n := n) H_this H_this_st hm HT H_this_wide HM H_this_begins H_this_book hbk k21 hbo
  refine V_iload_n eX10_told_0 rfl rfl ?_
  refine V_tswIn (tgt := 153) (off := 152) eX10_told_1 (by omega) (by omega) rfl rfl ?_
  refine V_aload_n eX10_told_153 rfl rfl ?_
  refine V_cvg eX10_told_154 (TL) H_this rfl rfl (Nat.le_of_ble_eq_true rfl) ⟨rfl, rfl⟩ ⟨Nat.zero_le _, Nat.zero_le _⟩ (fun h1 ⟨HL1, hfr1⟩ => ?_)
  show eb_V _ _ 157 _ [.int (eb_I _)] _ _ _
  exact V_iret eX10_told_157 ⟨Nat.zero_le _, Nat.zero_le _⟩ rfl (rfl) (⟨rfl, rfl, HR.lines HL1 hfr1⟩)
theorem x10_told_8 {v : Int} (HR : MR h T ty fa past seed i0 i1 sees book) (HO : SOK T ty fa past seed i0 i1 sees book) (hv : lc (fc_4 (lt_c (txq T)) T.1.length 1) v) : eb_T mX10_told [.ref 67, .int (eb_I 8)] n h (eb_G (some (.int (eb_I (if v = -1 then 1 else 0)))) n (fun h' => MR h' T ty fa past seed i0 i1 sees book ∧ L67 h h')) := by
  obtain ⟨cc, HR⟩ := HR
  obtain ⟨H_this, K, ⟨sf, H_this_st, hm⟩, ⟨pf, H_this_past, hp⟩, ⟨tf, H_this_typed, htf⟩, ⟨⟨ns, H_this_newSizes⟩, nl, H_this_newLetters⟩, ⟨⟨wd, H_this_wide⟩, HM, ⟨be, H_this_begins⟩, wi, H_this_with⟩, ⟨se, H_this_seen, hse⟩, ⟨bo, H_this_book, hbo⟩, ⟨⟨bb, H_this_beginsBy⟩, ib, H_this_isBy⟩, imf, kp, H_this_images, H_this_isKept, hi0, hi1⟩ := id HR
  obtain ⟨k2, k3, k5, k6, k19, k21⟩ := K
  obtain ⟨HT, hty, hfa, hpo, hsd, hg0, hg1, hsu, hbk⟩ := id HO
  have hN : T.1.length ≤ 40 := HT.1.1
  have e0 : sf (0 : Int).toNat = (T.1.length : Int) := hm.1
  refine eb_T.of (by decide +kernel) (Nat.le_of_ble_eq_true rfl) ?_
  show eb_V _ _ 0 [.ref 67, .int (eb_I 8)] [] (n, 0, 0) h _
  have TL := c_X10_firstOf (n := n) (wh := 0) (sgn := 1) H_this H_this_st hm HT H_this_wide HM (Or.inl ⟨rfl, rfl⟩) hv
  have vr : -1 ≤ v ∧ v ≤ 3000000 := by
    rcases hv with ⟨q, -⟩ | ⟨m, ⟨i, k, j, l, z1, z2, z3, z4, z5, z6⟩, z7, -⟩ <;> omega
  by_cases y : v = -1
  · rw [if_pos y]
    refine V_iload_n eX10_told_0 rfl rfl ?_
    refine V_tswIn (tgt := 110) (off := 109) eX10_told_1 (by omega) (by omega) rfl rfl ?_
    refine V_aload_n eX10_told_110 rfl rfl ?_
    refine V_iload_n eX10_told_111 rfl rfl ?_
    refine V_bipush eX10_told_112 (by decide) ?_
    refine V_isub eX10_told_114 ?_
    refine V_eqI (b := ((0 : Nat) : Int)) rfl ?_
    refine V_cvg eX10_told_115 (TL) H_this rfl rfl (Nat.le_of_ble_eq_true rfl) ⟨rfl, rfl⟩ ⟨Nat.zero_le _, Nat.zero_le _⟩ (fun h1 ⟨⟨D1, D2⟩, D3⟩ => ?_)
    show eb_V _ _ 118 _ [.int (eb_I v)] _ _ _
    refine V_if_ge (tgt := 125) eX10_told_118 rfl (by omega) (fun c_118 => ?_) (fun c_118 => ?_)
    · exact absurd c_118 (by omega)
    · refine V_iconst eX10_told_121 ?_
      refine V_goto (tgt := 126) eX10_told_122 rfl ?_
      exact V_iret eX10_told_126 ⟨Nat.zero_le _, Nat.zero_le _⟩ rfl (rfl) (⟨rfl, rfl, HR.layed D1 D2 D3⟩)
  · rw [if_neg y]
    refine V_iload_n eX10_told_0 rfl rfl ?_
    refine V_tswIn (tgt := 110) (off := 109) eX10_told_1 (by omega) (by omega) rfl rfl ?_
    refine V_aload_n eX10_told_110 rfl rfl ?_
    refine V_iload_n eX10_told_111 rfl rfl ?_
    refine V_bipush eX10_told_112 (by decide) ?_
    refine V_isub eX10_told_114 ?_
    refine V_eqI (b := ((0 : Nat) : Int)) rfl ?_
    refine V_cvg eX10_told_115 (TL) H_this rfl rfl (Nat.le_of_ble_eq_true rfl) ⟨rfl, rfl⟩ ⟨Nat.zero_le _, Nat.zero_le _⟩ (fun h1 ⟨⟨D1, D2⟩, D3⟩ => ?_)
    show eb_V _ _ 118 _ [.int (eb_I v)] _ _ _
    refine V_if_ge (tgt := 125) eX10_told_118 rfl (by omega) (fun c_118 => ?_) (fun c_118 => ?_)
    · refine V_iconst eX10_told_125 ?_
      exact V_iret eX10_told_126 ⟨Nat.zero_le _, Nat.zero_le _⟩ rfl (rfl) (⟨rfl, rfl, HR.layed D1 D2 D3⟩)
    · exact absurd (by omega) c_118
theorem x10_first_0 {v : Int} (HR : MR h T ty fa past seed i0 i1 sees book) (HO : SOK T ty fa past seed i0 i1 sees book) (hv : lc (fc_4 (lt_c (txq T)) T.1.length 1) v) : eb_T mX10_first [.ref 67, .int (eb_I 0)] n h (eb_G (some (.int (eb_I (v)))) n (fun h' => MR h' T ty fa past seed i0 i1 sees book ∧ L67 h h')) := by
  obtain ⟨cc, HR⟩ := HR
  obtain ⟨H_this, K, ⟨sf, H_this_st, hm⟩, ⟨pf, H_this_past, hp⟩, ⟨tf, H_this_typed, htf⟩, ⟨⟨ns, H_this_newSizes⟩, nl, H_this_newLetters⟩, ⟨⟨wd, H_this_wide⟩, HM, ⟨be, H_this_begins⟩, wi, H_this_with⟩, ⟨se, H_this_seen, hse⟩, ⟨bo, H_this_book, hbo⟩, ⟨⟨bb, H_this_beginsBy⟩, ib, H_this_isBy⟩, imf, kp, H_this_images, H_this_isKept, hi0, hi1⟩ := id HR
  obtain ⟨k2, k3, k5, k6, k19, k21⟩ := K
  obtain ⟨HT, hty, hfa, hpo, hsd, hg0, hg1, hsu, hbk⟩ := id HO
  have hN : T.1.length ≤ 40 := HT.1.1
  have e0 : sf (0 : Int).toNat = (T.1.length : Int) := hm.1
  refine eb_T.of (by decide +kernel) (Nat.le_of_ble_eq_true rfl) ?_
  show eb_V _ _ 0 [.ref 67, .int (eb_I 0)] [] (n, 0, 0) h _
  have TL := c_X10_firstOf (n := n) (wh := 0) (sgn := 1) H_this H_this_st hm HT H_this_wide HM (Or.inl ⟨rfl, rfl⟩) hv
  refine V_iload_n eX10_first_0 rfl rfl ?_
  refine V_i2lI eX10_first_1 (by omega) ?_
  refine V_lconst (b := 0) eX10_first_2 (by decide) ?_
  refine V_lconst (b := 1) eX10_first_3 (by decide) ?_
  refine V_csi eX10_first_4 (c_X10_in (by omega)) rfl rfl (Nat.le_of_ble_eq_true rfl) ⟨rfl, rfl⟩ ⟨Nat.zero_le _, Nat.zero_le _⟩ ?_
  rw [if_pos (by decide)]
  refine V_if_eq (tgt := 18) eX10_first_7 rfl (by omega) (fun c_7 => ?_) (fun c_7 => ?_)
  · exact absurd c_7 (by decide)
  · refine V_aload_n eX10_first_10 rfl rfl ?_
    refine V_iload_n eX10_first_11 rfl rfl ?_
    refine V_cvg eX10_first_12 (TL) H_this rfl rfl (Nat.le_of_ble_eq_true rfl) ⟨rfl, rfl⟩ ⟨Nat.zero_le _, Nat.zero_le _⟩ (fun h1 ⟨⟨D1, D2⟩, D3⟩ => ?_)
    show eb_V _ _ 15 _ [.int (eb_I v)] _ _ _
    refine V_goto (tgt := 20) eX10_first_15 rfl ?_
    exact V_iret eX10_first_20 ⟨Nat.zero_le _, Nat.zero_le _⟩ rfl (rfl) (⟨rfl, rfl, HR.layed D1 D2 D3⟩)
theorem x10_told_9 {v : Int} (HR : MR h T ty fa past seed i0 i1 sees book) (HO : SOK T ty fa past seed i0 i1 sees book) (hv : lc (fc_4 (lt_c (txq T)) T.1.length (-1)) v) : eb_T mX10_told [.ref 67, .int (eb_I 9)] n h (eb_G (some (.int (eb_I (if v = -1 then 1 else 0)))) n (fun h' => MR h' T ty fa past seed i0 i1 sees book ∧ L67 h h')) := by
  obtain ⟨cc, HR⟩ := HR
  obtain ⟨H_this, K, ⟨sf, H_this_st, hm⟩, ⟨pf, H_this_past, hp⟩, ⟨tf, H_this_typed, htf⟩, ⟨⟨ns, H_this_newSizes⟩, nl, H_this_newLetters⟩, ⟨⟨wd, H_this_wide⟩, HM, ⟨be, H_this_begins⟩, wi, H_this_with⟩, ⟨se, H_this_seen, hse⟩, ⟨bo, H_this_book, hbo⟩, ⟨⟨bb, H_this_beginsBy⟩, ib, H_this_isBy⟩, imf, kp, H_this_images, H_this_isKept, hi0, hi1⟩ := id HR
  obtain ⟨k2, k3, k5, k6, k19, k21⟩ := K
  obtain ⟨HT, hty, hfa, hpo, hsd, hg0, hg1, hsu, hbk⟩ := id HO
  have hN : T.1.length ≤ 40 := HT.1.1
  have e0 : sf (0 : Int).toNat = (T.1.length : Int) := hm.1
  refine eb_T.of (by decide +kernel) (Nat.le_of_ble_eq_true rfl) ?_
  show eb_V _ _ 0 [.ref 67, .int (eb_I 9)] [] (n, 0, 0) h _
  have TL := c_X10_firstOf (n := n) (wh := 1) (sgn := (-1)) H_this H_this_st hm HT H_this_wide HM (Or.inr ⟨rfl, rfl⟩) hv
  have vr : -1 ≤ v ∧ v ≤ 3000000 := by
    rcases hv with ⟨q, -⟩ | ⟨m, ⟨i, k, j, l, z1, z2, z3, z4, z5, z6⟩, z7, -⟩ <;> omega
  by_cases y : v = -1
  · rw [if_pos y]
    refine V_iload_n eX10_told_0 rfl rfl ?_
    refine V_tswIn (tgt := 110) (off := 109) eX10_told_1 (by omega) (by omega) rfl rfl ?_
    refine V_aload_n eX10_told_110 rfl rfl ?_
    refine V_iload_n eX10_told_111 rfl rfl ?_
    refine V_bipush eX10_told_112 (by decide) ?_
    refine V_isub eX10_told_114 ?_
    refine V_eqI (b := ((1 : Nat) : Int)) rfl ?_
    refine V_cvg eX10_told_115 (TL) H_this rfl rfl (Nat.le_of_ble_eq_true rfl) ⟨rfl, rfl⟩ ⟨Nat.zero_le _, Nat.zero_le _⟩ (fun h1 ⟨⟨D1, D2⟩, D3⟩ => ?_)
    show eb_V _ _ 118 _ [.int (eb_I v)] _ _ _
    refine V_if_ge (tgt := 125) eX10_told_118 rfl (by omega) (fun c_118 => ?_) (fun c_118 => ?_)
    · exact absurd c_118 (by omega)
    · refine V_iconst eX10_told_121 ?_
      refine V_goto (tgt := 126) eX10_told_122 rfl ?_
      exact V_iret eX10_told_126 ⟨Nat.zero_le _, Nat.zero_le _⟩ rfl (rfl) (⟨rfl, rfl, HR.layed D1 D2 D3⟩)
  · rw [if_neg y]
    refine V_iload_n eX10_told_0 rfl rfl ?_
    refine V_tswIn (tgt := 110) (off := 109) eX10_told_1 (by omega) (by omega) rfl rfl ?_
    refine V_aload_n eX10_told_110 rfl rfl ?_
    refine V_iload_n eX10_told_111 rfl rfl ?_
    refine V_bipush eX10_told_112 (by decide) ?_
    refine V_isub eX10_told_114 ?_
    refine V_eqI (b := ((1 : Nat) : Int)) rfl ?_
    refine V_cvg eX10_told_115 (TL) H_this rfl rfl (Nat.le_of_ble_eq_true rfl) ⟨rfl, rfl⟩ ⟨Nat.zero_le _, Nat.zero_le _⟩ (fun h1 ⟨⟨D1, D2⟩, D3⟩ => ?_)
    show eb_V _ _ 118 _ [.int (eb_I v)] _ _ _
    refine V_if_ge (tgt := 125) eX10_told_118 rfl (by omega) (fun c_118 => ?_) (fun c_118 => ?_)
    · refine V_iconst eX10_told_125 ?_
      exact V_iret eX10_told_126 ⟨Nat.zero_le _, Nat.zero_le _⟩ rfl (rfl) (⟨rfl, rfl, HR.layed D1 D2 D3⟩)
    · exact absurd (by omega) c_118
theorem x10_first_1 {v : Int} (HR : MR h T ty fa past seed i0 i1 sees book) (HO : SOK T ty fa past seed i0 i1 sees book) (hv : lc (fc_4 (lt_c (txq T)) T.1.length (-1)) v) : eb_T mX10_first [.ref 67, .int (eb_I 1)] n h (eb_G (some (.int (eb_I (v)))) n (fun h' => MR h' T ty fa past seed i0 i1 sees book ∧ L67 h h')) := by
  obtain ⟨cc, HR⟩ := HR
  obtain ⟨H_this, K, ⟨sf, H_this_st, hm⟩, ⟨pf, H_this_past, hp⟩, ⟨tf, H_this_typed, htf⟩, ⟨⟨ns, H_this_newSizes⟩, nl, H_this_newLetters⟩, ⟨⟨wd, H_this_wide⟩, HM, ⟨be, H_this_begins⟩, wi, H_this_with⟩, ⟨se, H_this_seen, hse⟩, ⟨bo, H_this_book, hbo⟩, ⟨⟨bb, H_this_beginsBy⟩, ib, H_this_isBy⟩, imf, kp, H_this_images, H_this_isKept, hi0, hi1⟩ := id HR
  obtain ⟨k2, k3, k5, k6, k19, k21⟩ := K
  obtain ⟨HT, hty, hfa, hpo, hsd, hg0, hg1, hsu, hbk⟩ := id HO
  have hN : T.1.length ≤ 40 := HT.1.1
  have e0 : sf (0 : Int).toNat = (T.1.length : Int) := hm.1
  refine eb_T.of (by decide +kernel) (Nat.le_of_ble_eq_true rfl) ?_
  show eb_V _ _ 0 [.ref 67, .int (eb_I 1)] [] (n, 0, 0) h _
  have TL := c_X10_firstOf (n := n) (wh := 1) (sgn := (-1)) H_this H_this_st hm HT H_this_wide HM (Or.inr ⟨rfl, rfl⟩) hv
  refine V_iload_n eX10_first_0 rfl rfl ?_
  refine V_i2lI eX10_first_1 (by omega) ?_
  refine V_lconst (b := 0) eX10_first_2 (by decide) ?_
  refine V_lconst (b := 1) eX10_first_3 (by decide) ?_
  refine V_csi eX10_first_4 (c_X10_in (by omega)) rfl rfl (Nat.le_of_ble_eq_true rfl) ⟨rfl, rfl⟩ ⟨Nat.zero_le _, Nat.zero_le _⟩ ?_
  rw [if_pos (by decide)]
  refine V_if_eq (tgt := 18) eX10_first_7 rfl (by omega) (fun c_7 => ?_) (fun c_7 => ?_)
  · exact absurd c_7 (by decide)
  · refine V_aload_n eX10_first_10 rfl rfl ?_
    refine V_iload_n eX10_first_11 rfl rfl ?_
    refine V_cvg eX10_first_12 (TL) H_this rfl rfl (Nat.le_of_ble_eq_true rfl) ⟨rfl, rfl⟩ ⟨Nat.zero_le _, Nat.zero_le _⟩ (fun h1 ⟨⟨D1, D2⟩, D3⟩ => ?_)
    show eb_V _ _ 15 _ [.int (eb_I v)] _ _ _
    refine V_goto (tgt := 20) eX10_first_15 rfl ?_
    exact V_iret eX10_first_20 ⟨Nat.zero_le _, Nat.zero_le _⟩ rfl (rfl) (⟨rfl, rfl, HR.layed D1 D2 D3⟩)
theorem x10_first_out {w : Int} (HR : MR h T ty fa past seed i0 i1 sees book) (HO : SOK T ty fa past seed i0 i1 sees book) (hw : -2147483648 ≤ w ∧ w ≤ 2147483647) (hc : ¬ (0 ≤ w ∧ w ≤ 1)) : eb_T mX10_first [.ref 67, .int (eb_I w)] n h (eb_G (some (.int (eb_I (-1000000002)))) n (fun h' => MR h' T ty fa past seed i0 i1 sees book ∧ L67 h h')) := by
  obtain ⟨cc, HR⟩ := HR
  obtain ⟨H_this, K, ⟨sf, H_this_st, hm⟩, ⟨pf, H_this_past, hp⟩, ⟨tf, H_this_typed, htf⟩, ⟨⟨ns, H_this_newSizes⟩, nl, H_this_newLetters⟩, ⟨⟨wd, H_this_wide⟩, HM, ⟨be, H_this_begins⟩, wi, H_this_with⟩, ⟨se, H_this_seen, hse⟩, ⟨bo, H_this_book, hbo⟩, ⟨⟨bb, H_this_beginsBy⟩, ib, H_this_isBy⟩, imf, kp, H_this_images, H_this_isKept, hi0, hi1⟩ := id HR
  obtain ⟨k2, k3, k5, k6, k19, k21⟩ := K
  obtain ⟨HT, hty, hfa, hpo, hsd, hg0, hg1, hsu, hbk⟩ := id HO
  have hN : T.1.length ≤ 40 := HT.1.1
  have e0 : sf (0 : Int).toNat = (T.1.length : Int) := hm.1
  refine eb_T.of (by decide +kernel) (Nat.le_of_ble_eq_true rfl) ?_
  show eb_V _ _ 0 [.ref 67, .int (eb_I w)] [] (n, 0, 0) h _
  refine V_iload_n eX10_first_0 rfl rfl ?_
  refine V_i2lI eX10_first_1 (by omega) ?_
  refine V_lconst (b := 0) eX10_first_2 (by decide) ?_
  refine V_lconst (b := 1) eX10_first_3 (by decide) ?_
  refine V_csi eX10_first_4 (c_X10_in (by omega)) rfl rfl (Nat.le_of_ble_eq_true rfl) ⟨rfl, rfl⟩ ⟨Nat.zero_le _, Nat.zero_le _⟩ ?_
  rw [if_neg hc]
  refine V_if_eq (tgt := 18) eX10_first_7 rfl (by omega) (fun c_7 => ?_) (fun c_7 => ?_)
  · refine V_ldc (a := -1000000002) eX10_first_18 wd_801 (by decide) ?_
    exact V_iret eX10_first_20 ⟨Nat.zero_le _, Nat.zero_le _⟩ rfl (rfl) (⟨rfl, rfl, ⟨cc, HR⟩, fun _ _ => rfl⟩)
  · exact absurd rfl c_7
theorem x10_cost_unk {i j : Int} (HR : MR h T ty fa past seed i0 i1 sees book) (HO : SOK T ty fa past seed i0 i1 sees book) (hi : -2147483648 ≤ i ∧ i ≤ 2147483647) (hj : -2147483648 ≤ j ∧ j ≤ 2147483647) (hc : ¬ (0 ≤ i ∧ i < j ∧ j ≤ (T.1.length : Int))) : eb_T mX10_cost [.ref 67, .int (eb_I i), .int (eb_I j)] n h (eb_G (some (.int (eb_I (-1000000001)))) n (fun h' => MR h' T ty fa past seed i0 i1 sees book ∧ L67 h h')) := by
  obtain ⟨cc, HR⟩ := HR
  obtain ⟨H_this, K, ⟨sf, H_this_st, hm⟩, ⟨pf, H_this_past, hp⟩, ⟨tf, H_this_typed, htf⟩, ⟨⟨ns, H_this_newSizes⟩, nl, H_this_newLetters⟩, ⟨⟨wd, H_this_wide⟩, HM, ⟨be, H_this_begins⟩, wi, H_this_with⟩, ⟨se, H_this_seen, hse⟩, ⟨bo, H_this_book, hbo⟩, ⟨⟨bb, H_this_beginsBy⟩, ib, H_this_isBy⟩, imf, kp, H_this_images, H_this_isKept, hi0, hi1⟩ := id HR
  obtain ⟨k2, k3, k5, k6, k19, k21⟩ := K
  obtain ⟨HT, hty, hfa, hpo, hsd, hg0, hg1, hsu, hbk⟩ := id HO
  have hN : T.1.length ≤ 40 := HT.1.1
  have e0 : sf (0 : Int).toNat = (T.1.length : Int) := hm.1
  refine eb_T.of (by decide +kernel) (Nat.le_of_ble_eq_true rfl) ?_
  show eb_V _ _ 0 [.ref 67, .int (eb_I i), .int (eb_I j)] [] (n, 0, 0) h _
  by_cases y1 : 0 ≤ i ∧ i ≤ (T.1.length : Int)
  · by_cases y2 : 0 ≤ j ∧ j ≤ (T.1.length : Int)
    · refine V_aload_n eX10_cost_0 rfl rfl ?_
      refine V_iload_n eX10_cost_1 rfl rfl ?_
      refine V_cvi eX10_cost_2 (c_X10_isEnd (n := n) H_this H_this_st hm hN hi) H_this rfl rfl (Nat.le_of_ble_eq_true rfl) ⟨rfl, rfl⟩ ⟨Nat.zero_le _, Nat.zero_le _⟩ ?_
      rw [if_pos y1]
      refine V_if_eq (tgt := 21) eX10_cost_5 rfl (by omega) (fun c_5 => ?_) (fun c_5 => ?_)
      · exact absurd c_5 (by decide)
      · refine V_aload_n eX10_cost_8 rfl rfl ?_
        refine V_iload_n eX10_cost_9 rfl rfl ?_
        refine V_cvi eX10_cost_10 (c_X10_isEnd (n := n) H_this H_this_st hm hN hj) H_this rfl rfl (Nat.le_of_ble_eq_true rfl) ⟨rfl, rfl⟩ ⟨Nat.zero_le _, Nat.zero_le _⟩ ?_
        rw [if_pos y2]
        refine V_if_eq (tgt := 21) eX10_cost_13 rfl (by omega) (fun c_13 => ?_) (fun c_13 => ?_)
        · exact absurd c_13 (by decide)
        · refine V_iload_n eX10_cost_16 rfl rfl ?_
          refine V_iload_n eX10_cost_17 rfl rfl ?_
          refine V_icmp_gt (tgt := 24) eX10_cost_18 rfl (by omega) (fun c_18 => ?_) (fun c_18 => ?_)
          · exact absurd c_18 (by omega)
          · refine V_ldc (a := -1000000001) eX10_cost_21 wd_841 (by decide) ?_
            exact V_iret eX10_cost_23 ⟨Nat.zero_le _, Nat.zero_le _⟩ rfl (rfl) (⟨rfl, rfl, ⟨cc, HR⟩, fun _ _ => rfl⟩)
    · refine V_aload_n eX10_cost_0 rfl rfl ?_
      refine V_iload_n eX10_cost_1 rfl rfl ?_
      refine V_cvi eX10_cost_2 (c_X10_isEnd (n := n) H_this H_this_st hm hN hi) H_this rfl rfl (Nat.le_of_ble_eq_true rfl) ⟨rfl, rfl⟩ ⟨Nat.zero_le _, Nat.zero_le _⟩ ?_
      rw [if_pos y1]
      refine V_if_eq (tgt := 21) eX10_cost_5 rfl (by omega) (fun c_5 => ?_) (fun c_5 => ?_)
      · exact absurd c_5 (by decide)
      · refine V_aload_n eX10_cost_8 rfl rfl ?_
        refine V_iload_n eX10_cost_9 rfl rfl ?_
        refine V_cvi eX10_cost_10 (c_X10_isEnd (n := n) H_this H_this_st hm hN hj) H_this rfl rfl (Nat.le_of_ble_eq_true rfl) ⟨rfl, rfl⟩ ⟨Nat.zero_le _, Nat.zero_le _⟩ ?_
        rw [if_neg y2]
        refine V_if_eq (tgt := 21) eX10_cost_13 rfl (by omega) (fun c_13 => ?_) (fun c_13 => ?_)
        · refine V_ldc (a := -1000000001) eX10_cost_21 wd_841 (by decide) ?_
          exact V_iret eX10_cost_23 ⟨Nat.zero_le _, Nat.zero_le _⟩ rfl (rfl) (⟨rfl, rfl, ⟨cc, HR⟩, fun _ _ => rfl⟩)
        · exact absurd rfl c_13
  · refine V_aload_n eX10_cost_0 rfl rfl ?_
    refine V_iload_n eX10_cost_1 rfl rfl ?_
    refine V_cvi eX10_cost_2 (c_X10_isEnd (n := n) H_this H_this_st hm hN hi) H_this rfl rfl (Nat.le_of_ble_eq_true rfl) ⟨rfl, rfl⟩ ⟨Nat.zero_le _, Nat.zero_le _⟩ ?_
    rw [if_neg y1]
    refine V_if_eq (tgt := 21) eX10_cost_5 rfl (by omega) (fun c_5 => ?_) (fun c_5 => ?_)
    · refine V_ldc (a := -1000000001) eX10_cost_21 wd_841 (by decide) ?_
      exact V_iret eX10_cost_23 ⟨Nat.zero_le _, Nat.zero_le _⟩ rfl (rfl) (⟨rfl, rfl, ⟨cc, HR⟩, fun _ _ => rfl⟩)
    · exact absurd rfl c_5
theorem x10_known_unk {i j : Int} (HR : MR h T ty fa past seed i0 i1 sees book) (HO : SOK T ty fa past seed i0 i1 sees book) (hi : -2147483648 ≤ i ∧ i ≤ 2147483647) (hj : -2147483648 ≤ j ∧ j ≤ 2147483647) (hc : ¬ (0 ≤ j ∧ j < i ∧ i ≤ (T.1.length : Int))) : eb_T mX10_known [.ref 67, .int (eb_I i), .int (eb_I j)] n h (eb_G (some (.int (eb_I (-1000000001)))) n (fun h' => MR h' T ty fa past seed i0 i1 sees book ∧ L67 h h')) := by
  obtain ⟨cc, HR⟩ := HR
  obtain ⟨H_this, K, ⟨sf, H_this_st, hm⟩, ⟨pf, H_this_past, hp⟩, ⟨tf, H_this_typed, htf⟩, ⟨⟨ns, H_this_newSizes⟩, nl, H_this_newLetters⟩, ⟨⟨wd, H_this_wide⟩, HM, ⟨be, H_this_begins⟩, wi, H_this_with⟩, ⟨se, H_this_seen, hse⟩, ⟨bo, H_this_book, hbo⟩, ⟨⟨bb, H_this_beginsBy⟩, ib, H_this_isBy⟩, imf, kp, H_this_images, H_this_isKept, hi0, hi1⟩ := id HR
  obtain ⟨k2, k3, k5, k6, k19, k21⟩ := K
  obtain ⟨HT, hty, hfa, hpo, hsd, hg0, hg1, hsu, hbk⟩ := id HO
  have hN : T.1.length ≤ 40 := HT.1.1
  have e0 : sf (0 : Int).toNat = (T.1.length : Int) := hm.1
  refine eb_T.of (by decide +kernel) (Nat.le_of_ble_eq_true rfl) ?_
  show eb_V _ _ 0 [.ref 67, .int (eb_I i), .int (eb_I j)] [] (n, 0, 0) h _
  by_cases y1 : 0 ≤ i ∧ i ≤ (T.1.length : Int)
  · by_cases y2 : 0 ≤ j ∧ j ≤ (T.1.length : Int)
    · refine V_aload_n eX10_known_0 rfl rfl ?_
      refine V_iload_n eX10_known_1 rfl rfl ?_
      refine V_cvi eX10_known_2 (c_X10_isEnd (n := n) H_this H_this_st hm hN hi) H_this rfl rfl (Nat.le_of_ble_eq_true rfl) ⟨rfl, rfl⟩ ⟨Nat.zero_le _, Nat.zero_le _⟩ ?_
      rw [if_pos y1]
      refine V_if_eq (tgt := 21) eX10_known_5 rfl (by omega) (fun c_5 => ?_) (fun c_5 => ?_)
      · exact absurd c_5 (by decide)
      · refine V_aload_n eX10_known_8 rfl rfl ?_
        refine V_iload_n eX10_known_9 rfl rfl ?_
        refine V_cvi eX10_known_10 (c_X10_isEnd (n := n) H_this H_this_st hm hN hj) H_this rfl rfl (Nat.le_of_ble_eq_true rfl) ⟨rfl, rfl⟩ ⟨Nat.zero_le _, Nat.zero_le _⟩ ?_
        rw [if_pos y2]
        refine V_if_eq (tgt := 21) eX10_known_13 rfl (by omega) (fun c_13 => ?_) (fun c_13 => ?_)
        · exact absurd c_13 (by decide)
        · refine V_iload_n eX10_known_16 rfl rfl ?_
          refine V_iload_n eX10_known_17 rfl rfl ?_
          refine V_icmp_lt (tgt := 24) eX10_known_18 rfl (by omega) (fun c_18 => ?_) (fun c_18 => ?_)
          · exact absurd c_18 (by omega)
          · refine V_ldc (a := -1000000001) eX10_known_21 wd_841 (by decide) ?_
            exact V_iret eX10_known_23 ⟨Nat.zero_le _, Nat.zero_le _⟩ rfl (rfl) (⟨rfl, rfl, ⟨cc, HR⟩, fun _ _ => rfl⟩)
    · refine V_aload_n eX10_known_0 rfl rfl ?_
      refine V_iload_n eX10_known_1 rfl rfl ?_
      refine V_cvi eX10_known_2 (c_X10_isEnd (n := n) H_this H_this_st hm hN hi) H_this rfl rfl (Nat.le_of_ble_eq_true rfl) ⟨rfl, rfl⟩ ⟨Nat.zero_le _, Nat.zero_le _⟩ ?_
      rw [if_pos y1]
      refine V_if_eq (tgt := 21) eX10_known_5 rfl (by omega) (fun c_5 => ?_) (fun c_5 => ?_)
      · exact absurd c_5 (by decide)
      · refine V_aload_n eX10_known_8 rfl rfl ?_
        refine V_iload_n eX10_known_9 rfl rfl ?_
        refine V_cvi eX10_known_10 (c_X10_isEnd (n := n) H_this H_this_st hm hN hj) H_this rfl rfl (Nat.le_of_ble_eq_true rfl) ⟨rfl, rfl⟩ ⟨Nat.zero_le _, Nat.zero_le _⟩ ?_
        rw [if_neg y2]
        refine V_if_eq (tgt := 21) eX10_known_13 rfl (by omega) (fun c_13 => ?_) (fun c_13 => ?_)
        · refine V_ldc (a := -1000000001) eX10_known_21 wd_841 (by decide) ?_
          exact V_iret eX10_known_23 ⟨Nat.zero_le _, Nat.zero_le _⟩ rfl (rfl) (⟨rfl, rfl, ⟨cc, HR⟩, fun _ _ => rfl⟩)
        · exact absurd rfl c_13
  · refine V_aload_n eX10_known_0 rfl rfl ?_
    refine V_iload_n eX10_known_1 rfl rfl ?_
    refine V_cvi eX10_known_2 (c_X10_isEnd (n := n) H_this H_this_st hm hN hi) H_this rfl rfl (Nat.le_of_ble_eq_true rfl) ⟨rfl, rfl⟩ ⟨Nat.zero_le _, Nat.zero_le _⟩ ?_
    rw [if_neg y1]
    refine V_if_eq (tgt := 21) eX10_known_5 rfl (by omega) (fun c_5 => ?_) (fun c_5 => ?_)
    · refine V_ldc (a := -1000000001) eX10_known_21 wd_841 (by decide) ?_
      exact V_iret eX10_known_23 ⟨Nat.zero_le _, Nat.zero_le _⟩ rfl (rfl) (⟨rfl, rfl, ⟨cc, HR⟩, fun _ _ => rfl⟩)
    · exact absurd rfl c_5
theorem x10_cost_ok {i j : Nat} (HR : MR h T ty fa past seed i0 i1 sees book) (HO : SOK T ty fa past seed i0 i1 sees book) (hc : i < j) (hj : j ≤ T.1.length) : eb_T mX10_cost [.ref 67, .int (eb_I (i : Int)), .int (eb_I (j : Int))] n h (eb_G (some (.int (eb_I (lt_c (txq T) i j)))) n (fun h' => MR h' T ty fa past seed i0 i1 sees book ∧ L67 h h')) := by
  obtain ⟨cc, HR⟩ := HR
  obtain ⟨H_this, K, ⟨sf, H_this_st, hm⟩, ⟨pf, H_this_past, hp⟩, ⟨tf, H_this_typed, htf⟩, ⟨⟨ns, H_this_newSizes⟩, nl, H_this_newLetters⟩, ⟨⟨wd, H_this_wide⟩, HM, ⟨be, H_this_begins⟩, wi, H_this_with⟩, ⟨se, H_this_seen, hse⟩, ⟨bo, H_this_book, hbo⟩, ⟨⟨bb, H_this_beginsBy⟩, ib, H_this_isBy⟩, imf, kp, H_this_images, H_this_isKept, hi0, hi1⟩ := id HR
  obtain ⟨k2, k3, k5, k6, k19, k21⟩ := K
  obtain ⟨HT, hty, hfa, hpo, hsd, hg0, hg1, hsu, hbk⟩ := id HO
  have hN : T.1.length ≤ 40 := HT.1.1
  have e0 : sf (0 : Int).toNat = (T.1.length : Int) := hm.1
  refine eb_T.of (by decide +kernel) (Nat.le_of_ble_eq_true rfl) ?_
  show eb_V _ _ 0 [.ref 67, .int (eb_I (i : Int)), .int (eb_I (j : Int))] [] (n, 0, 0) h _
  have TL := c_X10_lay (n := n) H_this H_this_st hm HT H_this_wide HM
  have ix : ((41 : Int) * (i : Int) + (j : Int)).toNat = 41 * i + j := by omega
  refine V_aload_n eX10_cost_0 rfl rfl ?_
  refine V_iload_n eX10_cost_1 rfl rfl ?_
  refine V_cvi eX10_cost_2 (c_X10_isEnd (n := n) H_this H_this_st hm hN (by omega)) H_this rfl rfl (Nat.le_of_ble_eq_true rfl) ⟨rfl, rfl⟩ ⟨Nat.zero_le _, Nat.zero_le _⟩ ?_
  rw [if_pos (by omega)]
  refine V_if_eq (tgt := 21) eX10_cost_5 rfl (by omega) (fun c_5 => ?_) (fun c_5 => ?_)
  · exact absurd c_5 (by decide)
  · refine V_aload_n eX10_cost_8 rfl rfl ?_
    refine V_iload_n eX10_cost_9 rfl rfl ?_
    refine V_cvi eX10_cost_10 (c_X10_isEnd (n := n) H_this H_this_st hm hN (by omega)) H_this rfl rfl (Nat.le_of_ble_eq_true rfl) ⟨rfl, rfl⟩ ⟨Nat.zero_le _, Nat.zero_le _⟩ ?_
    rw [if_pos (by omega)]
    refine V_if_eq (tgt := 21) eX10_cost_13 rfl (by omega) (fun c_13 => ?_) (fun c_13 => ?_)
    · exact absurd c_13 (by decide)
    · refine V_iload_n eX10_cost_16 rfl rfl ?_
      refine V_iload_n eX10_cost_17 rfl rfl ?_
      refine V_icmp_gt (tgt := 24) eX10_cost_18 rfl (by omega) (fun c_18 => ?_) (fun c_18 => ?_)
      · refine V_aload_n eX10_cost_24 rfl rfl ?_
        refine V_cvg eX10_cost_25 (TL) H_this rfl rfl (Nat.le_of_ble_eq_true rfl) ⟨rfl, rfl⟩ ⟨Nat.zero_le _, Nat.zero_le _⟩ (fun h1 ⟨⟨HM1, wd1, HW1, hwd1⟩, hfr1⟩ => ?_)
        show eb_V _ _ 28 _ [] _ _ _
        obtain ⟨up, co, to, ow, U, C, O, W, q1, q2, q3, q4⟩ := id HM1
        have H_this : h1 67 = mo cc := (hfr1 67 (by omega)).trans H_this
        have H_this_costs := C
        refine V_aload_n eX10_cost_28 rfl rfl ?_
        refine V_getf eX10_cost_29 H_this rfl ?_
        refine V_bipush eX10_cost_32 (by decide) ?_
        refine V_iload_n eX10_cost_34 rfl rfl ?_
        refine V_imul eX10_cost_35 ?_
        refine V_iload_n eX10_cost_36 rfl rfl ?_
        refine V_iadd eX10_cost_37 ?_
        refine V_iald eX10_cost_38 H_this_costs (by omega) ?_
        rw [ix, q2 i j hc hj]
        exact V_iret eX10_cost_39 ⟨Nat.zero_le _, Nat.zero_le _⟩ rfl (rfl) (⟨rfl, rfl, HR.layed HM1.any ⟨wd1, HW1⟩ hfr1⟩)
      · exact absurd (by omega) c_18
theorem x10_known_ok {i j : Nat} (HR : MR h T ty fa past seed i0 i1 sees book) (HO : SOK T ty fa past seed i0 i1 sees book) (hc : j < i) (hj : i ≤ T.1.length) : eb_T mX10_known [.ref 67, .int (eb_I (i : Int)), .int (eb_I (j : Int))] n h (eb_G (some (.int (eb_I (lt_kn (lt_c (txq T)) i j)))) n (fun h' => MR h' T ty fa past seed i0 i1 sees book ∧ L67 h h')) := by
  obtain ⟨cc, HR⟩ := HR
  obtain ⟨H_this, K, ⟨sf, H_this_st, hm⟩, ⟨pf, H_this_past, hp⟩, ⟨tf, H_this_typed, htf⟩, ⟨⟨ns, H_this_newSizes⟩, nl, H_this_newLetters⟩, ⟨⟨wd, H_this_wide⟩, HM, ⟨be, H_this_begins⟩, wi, H_this_with⟩, ⟨se, H_this_seen, hse⟩, ⟨bo, H_this_book, hbo⟩, ⟨⟨bb, H_this_beginsBy⟩, ib, H_this_isBy⟩, imf, kp, H_this_images, H_this_isKept, hi0, hi1⟩ := id HR
  obtain ⟨k2, k3, k5, k6, k19, k21⟩ := K
  obtain ⟨HT, hty, hfa, hpo, hsd, hg0, hg1, hsu, hbk⟩ := id HO
  have hN : T.1.length ≤ 40 := HT.1.1
  have e0 : sf (0 : Int).toNat = (T.1.length : Int) := hm.1
  refine eb_T.of (by decide +kernel) (Nat.le_of_ble_eq_true rfl) ?_
  show eb_V _ _ 0 [.ref 67, .int (eb_I (i : Int)), .int (eb_I (j : Int))] [] (n, 0, 0) h _
  have TL := c_X10_lay (n := n) H_this H_this_st hm HT H_this_wide HM
  refine V_aload_n eX10_known_0 rfl rfl ?_
  refine V_iload_n eX10_known_1 rfl rfl ?_
  refine V_cvi eX10_known_2 (c_X10_isEnd (n := n) H_this H_this_st hm hN (by omega)) H_this rfl rfl (Nat.le_of_ble_eq_true rfl) ⟨rfl, rfl⟩ ⟨Nat.zero_le _, Nat.zero_le _⟩ ?_
  rw [if_pos (by omega)]
  refine V_if_eq (tgt := 21) eX10_known_5 rfl (by omega) (fun c_5 => ?_) (fun c_5 => ?_)
  · exact absurd c_5 (by decide)
  · refine V_aload_n eX10_known_8 rfl rfl ?_
    refine V_iload_n eX10_known_9 rfl rfl ?_
    refine V_cvi eX10_known_10 (c_X10_isEnd (n := n) H_this H_this_st hm hN (by omega)) H_this rfl rfl (Nat.le_of_ble_eq_true rfl) ⟨rfl, rfl⟩ ⟨Nat.zero_le _, Nat.zero_le _⟩ ?_
    rw [if_pos (by omega)]
    refine V_if_eq (tgt := 21) eX10_known_13 rfl (by omega) (fun c_13 => ?_) (fun c_13 => ?_)
    · exact absurd c_13 (by decide)
    · refine V_iload_n eX10_known_16 rfl rfl ?_
      refine V_iload_n eX10_known_17 rfl rfl ?_
      refine V_icmp_lt (tgt := 24) eX10_known_18 rfl (by omega) (fun c_18 => ?_) (fun c_18 => ?_)
      · refine V_aload_n eX10_known_24 rfl rfl ?_
        refine V_cvg eX10_known_25 (TL) H_this rfl rfl (Nat.le_of_ble_eq_true rfl) ⟨rfl, rfl⟩ ⟨Nat.zero_le _, Nat.zero_le _⟩ (fun h1 ⟨⟨HM1, wd1, HW1, hwd1⟩, hfr1⟩ => ?_)
        show eb_V _ _ 28 _ [] _ _ _
        have H_this : h1 67 = mo cc := (hfr1 67 (by omega)).trans H_this
        refine V_aload_n eX10_known_28 rfl rfl ?_
        refine V_iload_n eX10_known_29 rfl rfl ?_
        refine V_iload_n eX10_known_30 rfl rfl ?_
        refine V_cvi eX10_known_31 (c_X10_ownerBy (n := n) H_this HM1 (tx_lok HT) hj hc) H_this rfl rfl (Nat.le_of_ble_eq_true rfl) ⟨rfl, rfl⟩ ⟨Nat.zero_le _, Nat.zero_le _⟩ ?_
        exact V_iret eX10_known_34 ⟨Nat.zero_le _, Nat.zero_le _⟩ rfl (rfl) (⟨rfl, rfl, HR.layed HM1.any ⟨wd1, HW1⟩ hfr1⟩)
      · exact absurd (by omega) c_18
theorem x10_with_out {k : Int} (HR : MR h T ty fa past seed i0 i1 sees book) (HO : SOK T ty fa past seed i0 i1 sees book) (hk : -2147483648 ≤ k ∧ k ≤ 2147483647) (hc : ¬ (1 ≤ k ∧ k ≤ 40)) : eb_T mX10_with [.ref 67, .int (eb_I k)] n h (eb_G (some (.int (eb_I (-1000000002)))) n (fun h' => MR h' T ty fa past seed i0 i1 sees book ∧ L67 h h')) := by
  obtain ⟨cc, HR⟩ := HR
  obtain ⟨H_this, K, ⟨sf, H_this_st, hm⟩, ⟨pf, H_this_past, hp⟩, ⟨tf, H_this_typed, htf⟩, ⟨⟨ns, H_this_newSizes⟩, nl, H_this_newLetters⟩, ⟨⟨wd, H_this_wide⟩, HM, ⟨be, H_this_begins⟩, wi, H_this_with⟩, ⟨se, H_this_seen, hse⟩, ⟨bo, H_this_book, hbo⟩, ⟨⟨bb, H_this_beginsBy⟩, ib, H_this_isBy⟩, imf, kp, H_this_images, H_this_isKept, hi0, hi1⟩ := id HR
  obtain ⟨k2, k3, k5, k6, k19, k21⟩ := K
  obtain ⟨HT, hty, hfa, hpo, hsd, hg0, hg1, hsu, hbk⟩ := id HO
  have hN : T.1.length ≤ 40 := HT.1.1
  have e0 : sf (0 : Int).toNat = (T.1.length : Int) := hm.1
  refine eb_T.of (by decide +kernel) (Nat.le_of_ble_eq_true rfl) ?_
  show eb_V _ _ 0 [.ref 67, .int (eb_I k), eb_no, eb_no, eb_no, eb_no, eb_no, eb_no] [] (n, 0, 0) h _
  refine V_iload_n eX10_with_0 rfl rfl ?_
  refine V_i2lI eX10_with_1 (by omega) ?_
  refine V_lconst (b := 1) eX10_with_2 (by decide) ?_
  refine V_ldc2 (a := 40) eX10_with_3 wd_1004 (by decide) ?_
  refine V_csi eX10_with_6 (c_X10_in (by omega)) rfl rfl (Nat.le_of_ble_eq_true rfl) ⟨rfl, rfl⟩ ⟨Nat.zero_le _, Nat.zero_le _⟩ ?_
  rw [if_neg hc]
  refine V_if_ne (tgt := 15) eX10_with_9 rfl (by omega) (fun c_9 => ?_) (fun c_9 => ?_)
  · exact absurd rfl c_9
  · refine V_ldc (a := -1000000002) eX10_with_12 wd_801 (by decide) ?_
    exact V_iret eX10_with_14 ⟨Nat.zero_le _, Nat.zero_le _⟩ rfl (rfl) (⟨rfl, rfl, ⟨cc, HR⟩, fun _ _ => rfl⟩)
theorem x10_with_ok {k : Nat} (HR : MR h T ty fa past seed i0 i1 sees book) (HO : SOK T ty fa past seed i0 i1 sees book) (hk : 1 ≤ k ∧ k ≤ 40) : eb_T mX10_with [.ref 67, .int (eb_I (k : Int))] n h (eb_G (some (.int (eb_I (if T.1.length < k then -1 else wl_R (lt_c (txq T)) k T.1.length)))) n (fun h' => MR h' T ty fa past seed i0 i1 sees book ∧ L67 h h')) := by
  obtain ⟨cc, HR⟩ := HR
  obtain ⟨H_this, K, ⟨sf, H_this_st, hm⟩, ⟨pf, H_this_past, hp⟩, ⟨tf, H_this_typed, htf⟩, ⟨⟨ns, H_this_newSizes⟩, nl, H_this_newLetters⟩, ⟨⟨wd, H_this_wide⟩, HM, ⟨be, H_this_begins⟩, wi, H_this_with⟩, ⟨se, H_this_seen, hse⟩, ⟨bo, H_this_book, hbo⟩, ⟨⟨bb, H_this_beginsBy⟩, ib, H_this_isBy⟩, imf, kp, H_this_images, H_this_isKept, hi0, hi1⟩ := id HR
  obtain ⟨k2, k3, k5, k6, k19, k21⟩ := K
  obtain ⟨HT, hty, hfa, hpo, hsd, hg0, hg1, hsu, hbk⟩ := id HO
  have hN : T.1.length ≤ 40 := HT.1.1
  have e0 : sf (0 : Int).toNat = (T.1.length : Int) := hm.1
  refine eb_T.mono (c_X10_with (n := n) H_this H_this_st hm HT H_this_wide HM H_this_with hk) (fun r n1 h1 z => ?_)
  obtain ⟨z1, z2, ⟨z3, z4, z5⟩, z6⟩ := z
  obtain ⟨x1, x2, x3, f, x4⟩ := HR.2.2.2.2.2.2.1
  exact ⟨z1, z2, HR.re ((z6 67 (by omega) (by omega)).trans H_this) ⟨rfl, rfl, rfl, rfl, rfl, rfl⟩ (fun k q => z6 k (by omega) (by omega)) ⟨z4, z3, ⟨be, (z6 78 (by omega) (by omega)).trans H_this_begins⟩, z5⟩ ((show mby h from ⟨⟨bb, H_this_beginsBy⟩, ib, H_this_isBy⟩).kept (z6 82 (by omega) (by omega)) (z6 83 (by omega) (by omega))), fun k q => z6 k (by omega) (by omega)⟩
theorem x10_best_out {a b w : Int} (HR : MR h T ty fa past seed i0 i1 sees book) (HO : SOK T ty fa past seed i0 i1 sees book) (ha : -2147483648 ≤ a ∧ a ≤ 2147483647) (hb : -2147483648 ≤ b ∧ b ≤ 2147483647) (hw : -2147483648 ≤ w ∧ w ≤ 2147483647) (hc : ¬ (1 ≤ a ∧ b ≤ 200 ∧ a ≤ b ∧ 0 ≤ w ∧ w ≤ 1)) : eb_T mX10_best [.ref 67, .int (eb_I a), .int (eb_I b), .int (eb_I w)] n h (eb_G (some (.int (eb_I (-1000000002)))) n (fun h' => MR h' T ty fa past seed i0 i1 sees book ∧ L67 h h')) := by
  obtain ⟨cc, HR⟩ := HR
  obtain ⟨H_this, K, ⟨sf, H_this_st, hm⟩, ⟨pf, H_this_past, hp⟩, ⟨tf, H_this_typed, htf⟩, ⟨⟨ns, H_this_newSizes⟩, nl, H_this_newLetters⟩, ⟨⟨wd, H_this_wide⟩, HM, ⟨be, H_this_begins⟩, wi, H_this_with⟩, ⟨se, H_this_seen, hse⟩, ⟨bo, H_this_book, hbo⟩, ⟨⟨bb, H_this_beginsBy⟩, ib, H_this_isBy⟩, imf, kp, H_this_images, H_this_isKept, hi0, hi1⟩ := id HR
  obtain ⟨k2, k3, k5, k6, k19, k21⟩ := K
  obtain ⟨HT, hty, hfa, hpo, hsd, hg0, hg1, hsu, hbk⟩ := id HO
  have hN : T.1.length ≤ 40 := HT.1.1
  have e0 : sf (0 : Int).toNat = (T.1.length : Int) := hm.1
  refine eb_T.of (by decide +kernel) (Nat.le_of_ble_eq_true rfl) ?_
  show eb_V _ _ 0 [.ref 67, .int (eb_I a), .int (eb_I b), .int (eb_I w), eb_no, eb_no, eb_no, eb_no] [] (n, 0, 0) h _
  by_cases y1 : 1 ≤ a ∧ a ≤ 200
  · by_cases y2 : 1 ≤ b ∧ b ≤ 200
    · by_cases y3 : b < a
      · refine V_iload_n eX10_best_0 rfl rfl ?_
        refine V_i2lI eX10_best_1 (by omega) ?_
        refine V_lconst (b := 1) eX10_best_2 (by decide) ?_
        refine V_ldc2 (a := 200) eX10_best_3 wd_1009 (by decide) ?_
        refine V_csi eX10_best_6 (c_X10_in (by omega)) rfl rfl (Nat.le_of_ble_eq_true rfl) ⟨rfl, rfl⟩ ⟨Nat.zero_le _, Nat.zero_le _⟩ ?_
        rw [if_pos y1]
        refine V_if_eq (tgt := 39) eX10_best_9 rfl (by omega) (fun c_9 => ?_) (fun c_9 => ?_)
        · exact absurd c_9 (by decide)
        · refine V_iload_n eX10_best_12 rfl rfl ?_
          refine V_i2lI eX10_best_13 (by omega) ?_
          refine V_lconst (b := 1) eX10_best_14 (by decide) ?_
          refine V_ldc2 (a := 200) eX10_best_15 wd_1009 (by decide) ?_
          refine V_csi eX10_best_18 (c_X10_in (by omega)) rfl rfl (Nat.le_of_ble_eq_true rfl) ⟨rfl, rfl⟩ ⟨Nat.zero_le _, Nat.zero_le _⟩ ?_
          rw [if_pos y2]
          refine V_if_eq (tgt := 39) eX10_best_21 rfl (by omega) (fun c_21 => ?_) (fun c_21 => ?_)
          · exact absurd c_21 (by decide)
          · refine V_iload_n eX10_best_24 rfl rfl ?_
            refine V_iload_n eX10_best_25 rfl rfl ?_
            refine V_icmp_gt (tgt := 39) eX10_best_26 rfl (by omega) (fun c_26 => ?_) (fun c_26 => ?_)
            · refine V_ldc (a := -1000000002) eX10_best_39 wd_801 (by decide) ?_
              exact V_iret eX10_best_41 ⟨Nat.zero_le _, Nat.zero_le _⟩ rfl (rfl) (⟨rfl, rfl, ⟨cc, HR⟩, fun _ _ => rfl⟩)
            · exact absurd y3 (by omega)
      · refine V_iload_n eX10_best_0 rfl rfl ?_
        refine V_i2lI eX10_best_1 (by omega) ?_
        refine V_lconst (b := 1) eX10_best_2 (by decide) ?_
        refine V_ldc2 (a := 200) eX10_best_3 wd_1009 (by decide) ?_
        refine V_csi eX10_best_6 (c_X10_in (by omega)) rfl rfl (Nat.le_of_ble_eq_true rfl) ⟨rfl, rfl⟩ ⟨Nat.zero_le _, Nat.zero_le _⟩ ?_
        rw [if_pos y1]
        refine V_if_eq (tgt := 39) eX10_best_9 rfl (by omega) (fun c_9 => ?_) (fun c_9 => ?_)
        · exact absurd c_9 (by decide)
        · refine V_iload_n eX10_best_12 rfl rfl ?_
          refine V_i2lI eX10_best_13 (by omega) ?_
          refine V_lconst (b := 1) eX10_best_14 (by decide) ?_
          refine V_ldc2 (a := 200) eX10_best_15 wd_1009 (by decide) ?_
          refine V_csi eX10_best_18 (c_X10_in (by omega)) rfl rfl (Nat.le_of_ble_eq_true rfl) ⟨rfl, rfl⟩ ⟨Nat.zero_le _, Nat.zero_le _⟩ ?_
          rw [if_pos y2]
          refine V_if_eq (tgt := 39) eX10_best_21 rfl (by omega) (fun c_21 => ?_) (fun c_21 => ?_)
          · exact absurd c_21 (by decide)
          · refine V_iload_n eX10_best_24 rfl rfl ?_
            refine V_iload_n eX10_best_25 rfl rfl ?_
            refine V_icmp_gt (tgt := 39) eX10_best_26 rfl (by omega) (fun c_26 => ?_) (fun c_26 => ?_)
            · exact absurd (by omega) y3
            · refine V_iload_n eX10_best_29 rfl rfl ?_
              refine V_i2lI eX10_best_30 (by omega) ?_
              refine V_lconst (b := 0) eX10_best_31 (by decide) ?_
              refine V_lconst (b := 1) eX10_best_32 (by decide) ?_
              refine V_csi eX10_best_33 (c_X10_in (by omega)) rfl rfl (Nat.le_of_ble_eq_true rfl) ⟨rfl, rfl⟩ ⟨Nat.zero_le _, Nat.zero_le _⟩ ?_
              rw [if_neg (by omega)]
              refine V_if_ne (tgt := 42) eX10_best_36 rfl (by omega) (fun c_36 => ?_) (fun c_36 => ?_)
              · exact absurd rfl c_36
              · refine V_ldc (a := -1000000002) eX10_best_39 wd_801 (by decide) ?_
                exact V_iret eX10_best_41 ⟨Nat.zero_le _, Nat.zero_le _⟩ rfl (rfl) (⟨rfl, rfl, ⟨cc, HR⟩, fun _ _ => rfl⟩)
    · refine V_iload_n eX10_best_0 rfl rfl ?_
      refine V_i2lI eX10_best_1 (by omega) ?_
      refine V_lconst (b := 1) eX10_best_2 (by decide) ?_
      refine V_ldc2 (a := 200) eX10_best_3 wd_1009 (by decide) ?_
      refine V_csi eX10_best_6 (c_X10_in (by omega)) rfl rfl (Nat.le_of_ble_eq_true rfl) ⟨rfl, rfl⟩ ⟨Nat.zero_le _, Nat.zero_le _⟩ ?_
      rw [if_pos y1]
      refine V_if_eq (tgt := 39) eX10_best_9 rfl (by omega) (fun c_9 => ?_) (fun c_9 => ?_)
      · exact absurd c_9 (by decide)
      · refine V_iload_n eX10_best_12 rfl rfl ?_
        refine V_i2lI eX10_best_13 (by omega) ?_
        refine V_lconst (b := 1) eX10_best_14 (by decide) ?_
        refine V_ldc2 (a := 200) eX10_best_15 wd_1009 (by decide) ?_
        refine V_csi eX10_best_18 (c_X10_in (by omega)) rfl rfl (Nat.le_of_ble_eq_true rfl) ⟨rfl, rfl⟩ ⟨Nat.zero_le _, Nat.zero_le _⟩ ?_
        rw [if_neg y2]
        refine V_if_eq (tgt := 39) eX10_best_21 rfl (by omega) (fun c_21 => ?_) (fun c_21 => ?_)
        · refine V_ldc (a := -1000000002) eX10_best_39 wd_801 (by decide) ?_
          exact V_iret eX10_best_41 ⟨Nat.zero_le _, Nat.zero_le _⟩ rfl (rfl) (⟨rfl, rfl, ⟨cc, HR⟩, fun _ _ => rfl⟩)
        · exact absurd rfl c_21
  · refine V_iload_n eX10_best_0 rfl rfl ?_
    refine V_i2lI eX10_best_1 (by omega) ?_
    refine V_lconst (b := 1) eX10_best_2 (by decide) ?_
    refine V_ldc2 (a := 200) eX10_best_3 wd_1009 (by decide) ?_
    refine V_csi eX10_best_6 (c_X10_in (by omega)) rfl rfl (Nat.le_of_ble_eq_true rfl) ⟨rfl, rfl⟩ ⟨Nat.zero_le _, Nat.zero_le _⟩ ?_
    rw [if_neg y1]
    refine V_if_eq (tgt := 39) eX10_best_9 rfl (by omega) (fun c_9 => ?_) (fun c_9 => ?_)
    · refine V_ldc (a := -1000000002) eX10_best_39 wd_801 (by decide) ?_
      exact V_iret eX10_best_41 ⟨Nat.zero_le _, Nat.zero_le _⟩ rfl (rfl) (⟨rfl, rfl, ⟨cc, HR⟩, fun _ _ => rfl⟩)
    · exact absurd rfl c_9
theorem x10_best_0 {a d : Nat} (HR : MR h T ty fa past seed i0 i1 sees book) (HO : SOK T ty fa past seed i0 i1 sees book) (ha : 1 ≤ a) (hd : a + d ≤ 200) : eb_T mX10_best [.ref 67, .int (eb_I (a : Int)), .int (eb_I ((a + d : Nat) : Int)), .int (eb_I 0)] n h (eb_G (some (.int (eb_I ((a : Int) + dp_a (fun i => dp_t (lt_c (TXq T (a + i))) T.1.length) (d + 1))))) n (fun h' => MR h' T ty fa past seed i0 i1 sees book ∧ L67 h h')) := by
  obtain ⟨cc, HR⟩ := HR
  obtain ⟨H_this, K, ⟨sf, H_this_st, hm⟩, ⟨pf, H_this_past, hp⟩, ⟨tf, H_this_typed, htf⟩, ⟨⟨ns, H_this_newSizes⟩, nl, H_this_newLetters⟩, ⟨⟨wd, H_this_wide⟩, HM, ⟨be, H_this_begins⟩, wi, H_this_with⟩, ⟨se, H_this_seen, hse⟩, ⟨bo, H_this_book, hbo⟩, ⟨⟨bb, H_this_beginsBy⟩, ib, H_this_isBy⟩, imf, kp, H_this_images, H_this_isKept, hi0, hi1⟩ := id HR
  obtain ⟨k2, k3, k5, k6, k19, k21⟩ := K
  obtain ⟨HT, hty, hfa, hpo, hsd, hg0, hg1, hsu, hbk⟩ := id HO
  have hN : T.1.length ≤ 40 := HT.1.1
  have e0 : sf (0 : Int).toNat = (T.1.length : Int) := hm.1
  refine eb_T.mono (c_X10_best (n := n) (wh := 0) H_this H_this_st hm HT H_this_wide HM ha hd (by omega)) (fun r n1 h1 z => ?_)
  obtain ⟨z1, z2, ⟨z3, z4⟩, z6⟩ := z
  exact ⟨z1, z2, HR.layed z3 z4 z6⟩
theorem x10_best_1 {a d : Nat} (HR : MR h T ty fa past seed i0 i1 sees book) (HO : SOK T ty fa past seed i0 i1 sees book) (ha : 1 ≤ a) (hd : a + d ≤ 200) : eb_T mX10_best [.ref 67, .int (eb_I (a : Int)), .int (eb_I ((a + d : Nat) : Int)), .int (eb_I 1)] n h (eb_G (some (.int (eb_I (dp_m (fun i => dp_t (lt_c (TXq T (a + i))) T.1.length) (d + 1))))) n (fun h' => MR h' T ty fa past seed i0 i1 sees book ∧ L67 h h')) := by
  obtain ⟨cc, HR⟩ := HR
  obtain ⟨H_this, K, ⟨sf, H_this_st, hm⟩, ⟨pf, H_this_past, hp⟩, ⟨tf, H_this_typed, htf⟩, ⟨⟨ns, H_this_newSizes⟩, nl, H_this_newLetters⟩, ⟨⟨wd, H_this_wide⟩, HM, ⟨be, H_this_begins⟩, wi, H_this_with⟩, ⟨se, H_this_seen, hse⟩, ⟨bo, H_this_book, hbo⟩, ⟨⟨bb, H_this_beginsBy⟩, ib, H_this_isBy⟩, imf, kp, H_this_images, H_this_isKept, hi0, hi1⟩ := id HR
  obtain ⟨k2, k3, k5, k6, k19, k21⟩ := K
  obtain ⟨HT, hty, hfa, hpo, hsd, hg0, hg1, hsu, hbk⟩ := id HO
  have hN : T.1.length ≤ 40 := HT.1.1
  have e0 : sf (0 : Int).toNat = (T.1.length : Int) := hm.1
  refine eb_T.mono (c_X10_best (n := n) (wh := 1) H_this H_this_st hm HT H_this_wide HM ha hd (by omega)) (fun r n1 h1 z => ?_)
  obtain ⟨z1, z2, ⟨z3, z4⟩, z6⟩ := z
  exact ⟨z1, z2, HR.layed z3 z4 z6⟩
theorem x10_end_unk {e w : Int} (HR : MR h T ty fa past seed i0 i1 sees book) (HO : SOK T ty fa past seed i0 i1 sees book) (he : -2147483648 ≤ e ∧ e ≤ 2147483647) (hc : ¬ (0 ≤ e ∧ e ≤ (T.1.length : Int))) : eb_T mX10_end [.ref 67, .int (eb_I e), .int (eb_I w)] n h (eb_G (some (.int (eb_I (-1000000001)))) n (fun h' => MR h' T ty fa past seed i0 i1 sees book ∧ L67 h h')) := by
  obtain ⟨cc, HR⟩ := HR
  obtain ⟨H_this, K, ⟨sf, H_this_st, hm⟩, ⟨pf, H_this_past, hp⟩, ⟨tf, H_this_typed, htf⟩, ⟨⟨ns, H_this_newSizes⟩, nl, H_this_newLetters⟩, ⟨⟨wd, H_this_wide⟩, HM, ⟨be, H_this_begins⟩, wi, H_this_with⟩, ⟨se, H_this_seen, hse⟩, ⟨bo, H_this_book, hbo⟩, ⟨⟨bb, H_this_beginsBy⟩, ib, H_this_isBy⟩, imf, kp, H_this_images, H_this_isKept, hi0, hi1⟩ := id HR
  obtain ⟨k2, k3, k5, k6, k19, k21⟩ := K
  obtain ⟨HT, hty, hfa, hpo, hsd, hg0, hg1, hsu, hbk⟩ := id HO
  have hN : T.1.length ≤ 40 := HT.1.1
  have e0 : sf (0 : Int).toNat = (T.1.length : Int) := hm.1
  refine eb_T.of (by decide +kernel) (Nat.le_of_ble_eq_true rfl) ?_
  show eb_V _ _ 0 [.ref 67, .int (eb_I e), .int (eb_I w)] [] (n, 0, 0) h _
  refine V_aload_n eX10_end_0 rfl rfl ?_
  refine V_iload_n eX10_end_1 rfl rfl ?_
  refine V_cvi eX10_end_2 (c_X10_isEnd (n := n) H_this H_this_st hm hN he) H_this rfl rfl (Nat.le_of_ble_eq_true rfl) ⟨rfl, rfl⟩ ⟨Nat.zero_le _, Nat.zero_le _⟩ ?_
  rw [if_neg hc]
  refine V_if_ne (tgt := 11) eX10_end_5 rfl (by omega) (fun c_5 => ?_) (fun c_5 => ?_)
  · exact absurd rfl c_5
  · refine V_ldc (a := -1000000001) eX10_end_8 wd_841 (by decide) ?_
    exact V_iret eX10_end_10 ⟨Nat.zero_le _, Nat.zero_le _⟩ rfl (rfl) (⟨rfl, rfl, ⟨cc, HR⟩, fun _ _ => rfl⟩)
theorem x10_end_out {e : Nat} {w : Int} (HR : MR h T ty fa past seed i0 i1 sees book) (HO : SOK T ty fa past seed i0 i1 sees book) (hc : e ≤ T.1.length) (hw : -2147483648 ≤ w ∧ w ≤ 2147483647) (hw2 : ¬ (0 ≤ w ∧ w ≤ 2)) : eb_T mX10_end [.ref 67, .int (eb_I (e : Int)), .int (eb_I w)] n h (eb_G (some (.int (eb_I (-1000000002)))) n (fun h' => MR h' T ty fa past seed i0 i1 sees book ∧ L67 h h')) := by
  obtain ⟨cc, HR⟩ := HR
  obtain ⟨H_this, K, ⟨sf, H_this_st, hm⟩, ⟨pf, H_this_past, hp⟩, ⟨tf, H_this_typed, htf⟩, ⟨⟨ns, H_this_newSizes⟩, nl, H_this_newLetters⟩, ⟨⟨wd, H_this_wide⟩, HM, ⟨be, H_this_begins⟩, wi, H_this_with⟩, ⟨se, H_this_seen, hse⟩, ⟨bo, H_this_book, hbo⟩, ⟨⟨bb, H_this_beginsBy⟩, ib, H_this_isBy⟩, imf, kp, H_this_images, H_this_isKept, hi0, hi1⟩ := id HR
  obtain ⟨k2, k3, k5, k6, k19, k21⟩ := K
  obtain ⟨HT, hty, hfa, hpo, hsd, hg0, hg1, hsu, hbk⟩ := id HO
  have hN : T.1.length ≤ 40 := HT.1.1
  have e0 : sf (0 : Int).toNat = (T.1.length : Int) := hm.1
  refine eb_T.of (by decide +kernel) (Nat.le_of_ble_eq_true rfl) ?_
  show eb_V _ _ 0 [.ref 67, .int (eb_I (e : Int)), .int (eb_I w)] [] (n, 0, 0) h _
  refine V_aload_n eX10_end_0 rfl rfl ?_
  refine V_iload_n eX10_end_1 rfl rfl ?_
  refine V_cvi eX10_end_2 (c_X10_isEnd (n := n) H_this H_this_st hm hN (by omega)) H_this rfl rfl (Nat.le_of_ble_eq_true rfl) ⟨rfl, rfl⟩ ⟨Nat.zero_le _, Nat.zero_le _⟩ ?_
  rw [if_pos (by omega)]
  refine V_if_ne (tgt := 11) eX10_end_5 rfl (by omega) (fun c_5 => ?_) (fun c_5 => ?_)
  · refine V_iload_n eX10_end_11 rfl rfl ?_
    refine V_i2lI eX10_end_12 (by omega) ?_
    refine V_lconst (b := 0) eX10_end_13 (by decide) ?_
    refine V_ldc2 (a := 2) eX10_end_14 wd_905 (by decide) ?_
    refine V_csi eX10_end_17 (c_X10_in (by omega)) rfl rfl (Nat.le_of_ble_eq_true rfl) ⟨rfl, rfl⟩ ⟨Nat.zero_le _, Nat.zero_le _⟩ ?_
    rw [if_neg hw2]
    refine V_if_ne (tgt := 26) eX10_end_20 rfl (by omega) (fun c_20 => ?_) (fun c_20 => ?_)
    · exact absurd rfl c_20
    · refine V_ldc (a := -1000000002) eX10_end_23 wd_801 (by decide) ?_
      exact V_iret eX10_end_25 ⟨Nat.zero_le _, Nat.zero_le _⟩ rfl (rfl) (⟨rfl, rfl, ⟨cc, HR⟩, fun _ _ => rfl⟩)
  · exact absurd c_5 (by decide)
theorem x10_end_0 {e : Nat} (HR : MR h T ty fa past seed i0 i1 sees book) (HO : SOK T ty fa past seed i0 i1 sees book) (hc : e ≤ T.1.length) : eb_T mX10_end [.ref 67, .int (eb_I (e : Int)), .int (eb_I 0)] n h (eb_G (some (.int (eb_I (dp_t (lt_c (txq T)) e)))) n (fun h' => MR h' T ty fa past seed i0 i1 sees book ∧ L67 h h')) := by
  obtain ⟨cc, HR⟩ := HR
  obtain ⟨H_this, K, ⟨sf, H_this_st, hm⟩, ⟨pf, H_this_past, hp⟩, ⟨tf, H_this_typed, htf⟩, ⟨⟨ns, H_this_newSizes⟩, nl, H_this_newLetters⟩, ⟨⟨wd, H_this_wide⟩, HM, ⟨be, H_this_begins⟩, wi, H_this_with⟩, ⟨se, H_this_seen, hse⟩, ⟨bo, H_this_book, hbo⟩, ⟨⟨bb, H_this_beginsBy⟩, ib, H_this_isBy⟩, imf, kp, H_this_images, H_this_isKept, hi0, hi1⟩ := id HR
  obtain ⟨k2, k3, k5, k6, k19, k21⟩ := K
  obtain ⟨HT, hty, hfa, hpo, hsd, hg0, hg1, hsu, hbk⟩ := id HO
  have hN : T.1.length ≤ 40 := HT.1.1
  have e0 : sf (0 : Int).toNat = (T.1.length : Int) := hm.1
  refine eb_T.of (by decide +kernel) (Nat.le_of_ble_eq_true rfl) ?_
  show eb_V _ _ 0 [.ref 67, .int (eb_I (e : Int)), .int (eb_I 0)] [] (n, 0, 0) h _
  have TL := c_X10_lay (n := n) H_this H_this_st hm HT H_this_wide HM
  refine V_aload_n eX10_end_0 rfl rfl ?_
  refine V_iload_n eX10_end_1 rfl rfl ?_
  refine V_cvi eX10_end_2 (c_X10_isEnd (n := n) H_this H_this_st hm hN (by omega)) H_this rfl rfl (Nat.le_of_ble_eq_true rfl) ⟨rfl, rfl⟩ ⟨Nat.zero_le _, Nat.zero_le _⟩ ?_
  rw [if_pos (by omega)]
  refine V_if_ne (tgt := 11) eX10_end_5 rfl (by omega) (fun c_5 => ?_) (fun c_5 => ?_)
  · refine V_iload_n eX10_end_11 rfl rfl ?_
    refine V_i2lI eX10_end_12 (by omega) ?_
    refine V_lconst (b := 0) eX10_end_13 (by decide) ?_
    refine V_ldc2 (a := 2) eX10_end_14 wd_905 (by decide) ?_
    refine V_csi eX10_end_17 (c_X10_in (by omega)) rfl rfl (Nat.le_of_ble_eq_true rfl) ⟨rfl, rfl⟩ ⟨Nat.zero_le _, Nat.zero_le _⟩ ?_
    rw [if_pos (by decide)]
    refine V_if_ne (tgt := 26) eX10_end_20 rfl (by omega) (fun c_20 => ?_) (fun c_20 => ?_)
    · refine V_iload_n eX10_end_26 rfl rfl ?_
      refine V_iconst eX10_end_27 ?_
      refine V_icmp_ne (tgt := 37) eX10_end_28 rfl (by omega) (fun c_28 => ?_) (fun c_28 => ?_)
      · refine V_aload_n eX10_end_37 rfl rfl ?_
        refine V_cvg eX10_end_38 (TL) H_this rfl rfl (Nat.le_of_ble_eq_true rfl) ⟨rfl, rfl⟩ ⟨Nat.zero_le _, Nat.zero_le _⟩ (fun h1 ⟨⟨HM1, wd1, HW1, hwd1⟩, hfr1⟩ => ?_)
        show eb_V _ _ 41 _ [] _ _ _
        obtain ⟨up, co, to, ow, U, C, O, W, q1, q2, q3, q4⟩ := id HM1
        have H_this : h1 67 = mo cc := (hfr1 67 (by omega)).trans H_this
        have H_this_totals := O
        have H_this_owners := W
        refine V_iload_n eX10_end_41 rfl rfl ?_
        refine V_if_ne (tgt := 54) eX10_end_42 rfl (by omega) (fun c_42 => ?_) (fun c_42 => ?_)
        · exact absurd rfl c_42
        · refine V_aload_n eX10_end_45 rfl rfl ?_
          refine V_getf eX10_end_46 H_this rfl ?_
          refine V_iload_n eX10_end_49 rfl rfl ?_
          refine V_iald eX10_end_50 H_this_totals (by omega) ?_
          rw [Int.toNat_natCast, q3 e hc]
          refine V_goto (tgt := 60) eX10_end_51 rfl ?_
          exact V_iret eX10_end_60 ⟨Nat.zero_le _, Nat.zero_le _⟩ rfl (rfl) (⟨rfl, rfl, HR.layed HM1.any ⟨wd1, HW1⟩ hfr1⟩)
      · exact absurd c_28 (by decide)
    · exact absurd c_20 (by decide)
  · exact absurd c_5 (by decide)
theorem x10_end_1 {e : Nat} (HR : MR h T ty fa past seed i0 i1 sees book) (HO : SOK T ty fa past seed i0 i1 sees book) (hc : e ≤ T.1.length) : eb_T mX10_end [.ref 67, .int (eb_I (e : Int)), .int (eb_I 1)] n h (eb_G (some (.int (eb_I (dp_o (lt_c (txq T)) e)))) n (fun h' => MR h' T ty fa past seed i0 i1 sees book ∧ L67 h h')) := by
  obtain ⟨cc, HR⟩ := HR
  obtain ⟨H_this, K, ⟨sf, H_this_st, hm⟩, ⟨pf, H_this_past, hp⟩, ⟨tf, H_this_typed, htf⟩, ⟨⟨ns, H_this_newSizes⟩, nl, H_this_newLetters⟩, ⟨⟨wd, H_this_wide⟩, HM, ⟨be, H_this_begins⟩, wi, H_this_with⟩, ⟨se, H_this_seen, hse⟩, ⟨bo, H_this_book, hbo⟩, ⟨⟨bb, H_this_beginsBy⟩, ib, H_this_isBy⟩, imf, kp, H_this_images, H_this_isKept, hi0, hi1⟩ := id HR
  obtain ⟨k2, k3, k5, k6, k19, k21⟩ := K
  obtain ⟨HT, hty, hfa, hpo, hsd, hg0, hg1, hsu, hbk⟩ := id HO
  have hN : T.1.length ≤ 40 := HT.1.1
  have e0 : sf (0 : Int).toNat = (T.1.length : Int) := hm.1
  refine eb_T.of (by decide +kernel) (Nat.le_of_ble_eq_true rfl) ?_
  show eb_V _ _ 0 [.ref 67, .int (eb_I (e : Int)), .int (eb_I 1)] [] (n, 0, 0) h _
  have TL := c_X10_lay (n := n) H_this H_this_st hm HT H_this_wide HM
  refine V_aload_n eX10_end_0 rfl rfl ?_
  refine V_iload_n eX10_end_1 rfl rfl ?_
  refine V_cvi eX10_end_2 (c_X10_isEnd (n := n) H_this H_this_st hm hN (by omega)) H_this rfl rfl (Nat.le_of_ble_eq_true rfl) ⟨rfl, rfl⟩ ⟨Nat.zero_le _, Nat.zero_le _⟩ ?_
  rw [if_pos (by omega)]
  refine V_if_ne (tgt := 11) eX10_end_5 rfl (by omega) (fun c_5 => ?_) (fun c_5 => ?_)
  · refine V_iload_n eX10_end_11 rfl rfl ?_
    refine V_i2lI eX10_end_12 (by omega) ?_
    refine V_lconst (b := 0) eX10_end_13 (by decide) ?_
    refine V_ldc2 (a := 2) eX10_end_14 wd_905 (by decide) ?_
    refine V_csi eX10_end_17 (c_X10_in (by omega)) rfl rfl (Nat.le_of_ble_eq_true rfl) ⟨rfl, rfl⟩ ⟨Nat.zero_le _, Nat.zero_le _⟩ ?_
    rw [if_pos (by decide)]
    refine V_if_ne (tgt := 26) eX10_end_20 rfl (by omega) (fun c_20 => ?_) (fun c_20 => ?_)
    · refine V_iload_n eX10_end_26 rfl rfl ?_
      refine V_iconst eX10_end_27 ?_
      refine V_icmp_ne (tgt := 37) eX10_end_28 rfl (by omega) (fun c_28 => ?_) (fun c_28 => ?_)
      · refine V_aload_n eX10_end_37 rfl rfl ?_
        refine V_cvg eX10_end_38 (TL) H_this rfl rfl (Nat.le_of_ble_eq_true rfl) ⟨rfl, rfl⟩ ⟨Nat.zero_le _, Nat.zero_le _⟩ (fun h1 ⟨⟨HM1, wd1, HW1, hwd1⟩, hfr1⟩ => ?_)
        show eb_V _ _ 41 _ [] _ _ _
        obtain ⟨up, co, to, ow, U, C, O, W, q1, q2, q3, q4⟩ := id HM1
        have H_this : h1 67 = mo cc := (hfr1 67 (by omega)).trans H_this
        have H_this_totals := O
        have H_this_owners := W
        refine V_iload_n eX10_end_41 rfl rfl ?_
        refine V_if_ne (tgt := 54) eX10_end_42 rfl (by omega) (fun c_42 => ?_) (fun c_42 => ?_)
        · refine V_aload_n eX10_end_54 rfl rfl ?_
          refine V_getf eX10_end_55 H_this rfl ?_
          refine V_iload_n eX10_end_58 rfl rfl ?_
          refine V_iald eX10_end_59 H_this_owners (by omega) ?_
          rw [Int.toNat_natCast, q4 e hc]
          exact V_iret eX10_end_60 ⟨Nat.zero_le _, Nat.zero_le _⟩ rfl (rfl) (⟨rfl, rfl, HR.layed HM1.any ⟨wd1, HW1⟩ hfr1⟩)
        · exact absurd c_42 (by decide)
      · exact absurd c_28 (by decide)
    · exact absurd c_20 (by decide)
  · exact absurd c_5 (by decide)
theorem x10_end_2 {e : Nat} (HR : MR h T ty fa past seed i0 i1 sees book) (HO : SOK T ty fa past seed i0 i1 sees book) (hc : e ≤ T.1.length) : eb_T mX10_end [.ref 67, .int (eb_I (e : Int)), .int (eb_I 2)] n h (eb_G (some (.int (eb_I ((rn_F (fun x => lt_kn (lt_c (txq T)) x e) (e + 1) (T.1.length - e)).1)))) n (fun h' => MR h' T ty fa past seed i0 i1 sees book ∧ L67 h h')) := by
  obtain ⟨cc, HR⟩ := HR
  obtain ⟨H_this, K, ⟨sf, H_this_st, hm⟩, ⟨pf, H_this_past, hp⟩, ⟨tf, H_this_typed, htf⟩, ⟨⟨ns, H_this_newSizes⟩, nl, H_this_newLetters⟩, ⟨⟨wd, H_this_wide⟩, HM, ⟨be, H_this_begins⟩, wi, H_this_with⟩, ⟨se, H_this_seen, hse⟩, ⟨bo, H_this_book, hbo⟩, ⟨⟨bb, H_this_beginsBy⟩, ib, H_this_isBy⟩, imf, kp, H_this_images, H_this_isKept, hi0, hi1⟩ := id HR
  obtain ⟨k2, k3, k5, k6, k19, k21⟩ := K
  obtain ⟨HT, hty, hfa, hpo, hsd, hg0, hg1, hsu, hbk⟩ := id HO
  have hN : T.1.length ≤ 40 := HT.1.1
  have e0 : sf (0 : Int).toNat = (T.1.length : Int) := hm.1
  refine eb_T.of (by decide +kernel) (Nat.le_of_ble_eq_true rfl) ?_
  show eb_V _ _ 0 [.ref 67, .int (eb_I (e : Int)), .int (eb_I 2)] [] (n, 0, 0) h _
  have TL := c_X10_runsAt (n := n) H_this H_this_st hm HT H_this_wide HM hc
  refine V_aload_n eX10_end_0 rfl rfl ?_
  refine V_iload_n eX10_end_1 rfl rfl ?_
  refine V_cvi eX10_end_2 (c_X10_isEnd (n := n) H_this H_this_st hm hN (by omega)) H_this rfl rfl (Nat.le_of_ble_eq_true rfl) ⟨rfl, rfl⟩ ⟨Nat.zero_le _, Nat.zero_le _⟩ ?_
  rw [if_pos (by omega)]
  refine V_if_ne (tgt := 11) eX10_end_5 rfl (by omega) (fun c_5 => ?_) (fun c_5 => ?_)
  · refine V_iload_n eX10_end_11 rfl rfl ?_
    refine V_i2lI eX10_end_12 (by omega) ?_
    refine V_lconst (b := 0) eX10_end_13 (by decide) ?_
    refine V_ldc2 (a := 2) eX10_end_14 wd_905 (by decide) ?_
    refine V_csi eX10_end_17 (c_X10_in (by omega)) rfl rfl (Nat.le_of_ble_eq_true rfl) ⟨rfl, rfl⟩ ⟨Nat.zero_le _, Nat.zero_le _⟩ ?_
    rw [if_pos (by decide)]
    refine V_if_ne (tgt := 26) eX10_end_20 rfl (by omega) (fun c_20 => ?_) (fun c_20 => ?_)
    · refine V_iload_n eX10_end_26 rfl rfl ?_
      refine V_iconst eX10_end_27 ?_
      refine V_icmp_ne (tgt := 37) eX10_end_28 rfl (by omega) (fun c_28 => ?_) (fun c_28 => ?_)
      · exact absurd rfl c_28
      · refine V_aload_n eX10_end_31 rfl rfl ?_
        refine V_iload_n eX10_end_32 rfl rfl ?_
        refine V_cvg eX10_end_33 (TL) H_this rfl rfl (Nat.le_of_ble_eq_true rfl) ⟨rfl, rfl⟩ ⟨Nat.zero_le _, Nat.zero_le _⟩ (fun h1 ⟨⟨D1, D2⟩, D3⟩ => ?_)
        show eb_V _ _ 36 _ [.int (eb_I _)] _ _ _
        exact V_iret eX10_end_36 ⟨Nat.zero_le _, Nat.zero_le _⟩ rfl (rfl) (⟨rfl, rfl, HR.layed D1 D2 D3⟩)
    · exact absurd c_20 (by decide)
  · exact absurd c_5 (by decide)
theorem x10_word_unk {w x : Int} (HR : MR h T ty fa past seed i0 i1 sees book) (HO : SOK T ty fa past seed i0 i1 sees book) (hw : -2147483648 ≤ w ∧ w ≤ 2147483647) (hc : ¬ (0 ≤ w ∧ w < (T.1.length : Int))) : eb_T mX10_word [.ref 67, .int (eb_I w), .int (eb_I x)] n h (eb_G (some (.int (eb_I (-1000000001)))) n (fun h' => MR h' T ty fa past seed i0 i1 sees book ∧ L67 h h')) := by
  obtain ⟨cc, HR⟩ := HR
  obtain ⟨H_this, K, ⟨sf, H_this_st, hm⟩, ⟨pf, H_this_past, hp⟩, ⟨tf, H_this_typed, htf⟩, ⟨⟨ns, H_this_newSizes⟩, nl, H_this_newLetters⟩, ⟨⟨wd, H_this_wide⟩, HM, ⟨be, H_this_begins⟩, wi, H_this_with⟩, ⟨se, H_this_seen, hse⟩, ⟨bo, H_this_book, hbo⟩, ⟨⟨bb, H_this_beginsBy⟩, ib, H_this_isBy⟩, imf, kp, H_this_images, H_this_isKept, hi0, hi1⟩ := id HR
  obtain ⟨k2, k3, k5, k6, k19, k21⟩ := K
  obtain ⟨HT, hty, hfa, hpo, hsd, hg0, hg1, hsu, hbk⟩ := id HO
  have hN : T.1.length ≤ 40 := HT.1.1
  have e0 : sf (0 : Int).toNat = (T.1.length : Int) := hm.1
  refine eb_T.of (by decide +kernel) (Nat.le_of_ble_eq_true rfl) ?_
  show eb_V _ _ 0 [.ref 67, .int (eb_I w), .int (eb_I x)] [] (n, 0, 0) h _
  refine V_aload_n eX10_word_0 rfl rfl ?_
  refine V_iload_n eX10_word_1 rfl rfl ?_
  refine V_cvi eX10_word_2 (c_X10_isWord (n := n) H_this H_this_st hm hN hw) H_this rfl rfl (Nat.le_of_ble_eq_true rfl) ⟨rfl, rfl⟩ ⟨Nat.zero_le _, Nat.zero_le _⟩ ?_
  rw [if_neg hc]
  refine V_if_ne (tgt := 11) eX10_word_5 rfl (by omega) (fun c_5 => ?_) (fun c_5 => ?_)
  · exact absurd rfl c_5
  · refine V_ldc (a := -1000000001) eX10_word_8 wd_841 (by decide) ?_
    exact V_iret eX10_word_10 ⟨Nat.zero_le _, Nat.zero_le _⟩ rfl (rfl) (⟨rfl, rfl, ⟨cc, HR⟩, fun _ _ => rfl⟩)
theorem x10_word_out {w : Nat} {x : Int} (HR : MR h T ty fa past seed i0 i1 sees book) (HO : SOK T ty fa past seed i0 i1 sees book) (hc : w < T.1.length) (hx : -2147483648 ≤ x ∧ x ≤ 2147483647) (hx2 : ¬ (0 ≤ x ∧ x ≤ 15)) : eb_T mX10_word [.ref 67, .int (eb_I (w : Int)), .int (eb_I x)] n h (eb_G (some (.int (eb_I (-1000000002)))) n (fun h' => MR h' T ty fa past seed i0 i1 sees book ∧ L67 h h')) := by
  obtain ⟨cc, HR⟩ := HR
  obtain ⟨H_this, K, ⟨sf, H_this_st, hm⟩, ⟨pf, H_this_past, hp⟩, ⟨tf, H_this_typed, htf⟩, ⟨⟨ns, H_this_newSizes⟩, nl, H_this_newLetters⟩, ⟨⟨wd, H_this_wide⟩, HM, ⟨be, H_this_begins⟩, wi, H_this_with⟩, ⟨se, H_this_seen, hse⟩, ⟨bo, H_this_book, hbo⟩, ⟨⟨bb, H_this_beginsBy⟩, ib, H_this_isBy⟩, imf, kp, H_this_images, H_this_isKept, hi0, hi1⟩ := id HR
  obtain ⟨k2, k3, k5, k6, k19, k21⟩ := K
  obtain ⟨HT, hty, hfa, hpo, hsd, hg0, hg1, hsu, hbk⟩ := id HO
  have hN : T.1.length ≤ 40 := HT.1.1
  have e0 : sf (0 : Int).toNat = (T.1.length : Int) := hm.1
  refine eb_T.of (by decide +kernel) (Nat.le_of_ble_eq_true rfl) ?_
  show eb_V _ _ 0 [.ref 67, .int (eb_I (w : Int)), .int (eb_I x)] [] (n, 0, 0) h _
  refine V_aload_n eX10_word_0 rfl rfl ?_
  refine V_iload_n eX10_word_1 rfl rfl ?_
  refine V_cvi eX10_word_2 (c_X10_isWord (n := n) H_this H_this_st hm hN (by omega)) H_this rfl rfl (Nat.le_of_ble_eq_true rfl) ⟨rfl, rfl⟩ ⟨Nat.zero_le _, Nat.zero_le _⟩ ?_
  rw [if_pos (by omega)]
  refine V_if_ne (tgt := 11) eX10_word_5 rfl (by omega) (fun c_5 => ?_) (fun c_5 => ?_)
  · refine V_iload_n eX10_word_11 rfl rfl ?_
    refine V_i2lI eX10_word_12 (by omega) ?_
    refine V_lconst (b := 0) eX10_word_13 (by decide) ?_
    refine V_ldc2 (a := 15) eX10_word_14 wd_842 (by decide) ?_
    refine V_csi eX10_word_17 (c_X10_in (by omega)) rfl rfl (Nat.le_of_ble_eq_true rfl) ⟨rfl, rfl⟩ ⟨Nat.zero_le _, Nat.zero_le _⟩ ?_
    rw [if_neg hx2]
    refine V_if_ne (tgt := 26) eX10_word_20 rfl (by omega) (fun c_20 => ?_) (fun c_20 => ?_)
    · exact absurd rfl c_20
    · refine V_ldc (a := -1000000002) eX10_word_23 wd_801 (by decide) ?_
      exact V_iret eX10_word_25 ⟨Nat.zero_le _, Nat.zero_le _⟩ rfl (rfl) (⟨rfl, rfl, ⟨cc, HR⟩, fun _ _ => rfl⟩)
  · exact absurd c_5 (by decide)
theorem x10_word_0 {w : Nat} (HR : MR h T ty fa past seed i0 i1 sees book) (HO : SOK T ty fa past seed i0 i1 sees book) (hc : w < T.1.length) : eb_T mX10_word [.ref 67, .int (eb_I (w : Int)), .int (eb_I 0)] n h (eb_G (some (.int (eb_I (sp_ww (T.1.getD w []))))) n (fun h' => MR h' T ty fa past seed i0 i1 sees book ∧ L67 h h')) := by
  obtain ⟨cc, HR⟩ := HR
  obtain ⟨H_this, K, ⟨sf, H_this_st, hm⟩, ⟨pf, H_this_past, hp⟩, ⟨tf, H_this_typed, htf⟩, ⟨⟨ns, H_this_newSizes⟩, nl, H_this_newLetters⟩, ⟨⟨wd, H_this_wide⟩, HM, ⟨be, H_this_begins⟩, wi, H_this_with⟩, ⟨se, H_this_seen, hse⟩, ⟨bo, H_this_book, hbo⟩, ⟨⟨bb, H_this_beginsBy⟩, ib, H_this_isBy⟩, imf, kp, H_this_images, H_this_isKept, hi0, hi1⟩ := id HR
  obtain ⟨k2, k3, k5, k6, k19, k21⟩ := K
  obtain ⟨HT, hty, hfa, hpo, hsd, hg0, hg1, hsu, hbk⟩ := id HO
  have hN : T.1.length ≤ 40 := HT.1.1
  have e0 : sf (0 : Int).toNat = (T.1.length : Int) := hm.1
  have eD : T.1.getD w [] = T.1[w] := by simp [hc]
  rw [eD]
  refine eb_T.of (by decide +kernel) (Nat.le_of_ble_eq_true rfl) ?_
  show eb_V _ _ 0 [.ref 67, .int (eb_I (w : Int)), .int (eb_I 0)] [] (n, 0, 0) h _
  refine V_aload_n eX10_word_0 rfl rfl ?_
  refine V_iload_n eX10_word_1 rfl rfl ?_
  refine V_cvi eX10_word_2 (c_X10_isWord (n := n) H_this H_this_st hm hN (by omega)) H_this rfl rfl (Nat.le_of_ble_eq_true rfl) ⟨rfl, rfl⟩ ⟨Nat.zero_le _, Nat.zero_le _⟩ ?_
  rw [if_pos (by omega)]
  refine V_if_ne (tgt := 11) eX10_word_5 rfl (by omega) (fun c_5 => ?_) (fun c_5 => ?_)
  · refine V_iload_n eX10_word_11 rfl rfl ?_
    refine V_i2lI eX10_word_12 (by omega) ?_
    refine V_lconst (b := 0) eX10_word_13 (by decide) ?_
    refine V_ldc2 (a := 15) eX10_word_14 wd_842 (by decide) ?_
    refine V_csi eX10_word_17 (c_X10_in (by omega)) rfl rfl (Nat.le_of_ble_eq_true rfl) ⟨rfl, rfl⟩ ⟨Nat.zero_le _, Nat.zero_le _⟩ ?_
    rw [if_pos (by omega)]
    refine V_if_ne (tgt := 26) eX10_word_20 rfl (by omega) (fun c_20 => ?_) (fun c_20 => ?_)
    · refine V_iload_n eX10_word_26 rfl rfl ?_
      refine V_tswIn (tgt := 56) (off := 29) eX10_word_27 (by omega) (by omega) rfl rfl ?_
      refine V_aload_n eX10_word_56 rfl rfl ?_
      refine V_iload_n eX10_word_57 rfl rfl ?_
      refine V_cvi eX10_word_58 (c_X10_wordWidth (n := n) H_this H_this_st hm HT hc) H_this rfl rfl (Nat.le_of_ble_eq_true rfl) ⟨rfl, rfl⟩ ⟨Nat.zero_le _, Nat.zero_le _⟩ ?_
      exact V_iret eX10_word_61 ⟨Nat.zero_le _, Nat.zero_le _⟩ rfl (rfl) (⟨rfl, rfl, ⟨cc, HR⟩, fun _ _ => rfl⟩)
    · exact absurd c_20 (by decide)
  · exact absurd c_5 (by decide)
theorem x10_word_1 {w : Nat} (HR : MR h T ty fa past seed i0 i1 sees book) (HO : SOK T ty fa past seed i0 i1 sees book) (hc : w < T.1.length) : eb_T mX10_word [.ref 67, .int (eb_I (w : Int)), .int (eb_I 1)] n h (eb_G (some (.int (eb_I (((T.1.getD w []).length : Int))))) n (fun h' => MR h' T ty fa past seed i0 i1 sees book ∧ L67 h h')) := by
  obtain ⟨cc, HR⟩ := HR
  obtain ⟨H_this, K, ⟨sf, H_this_st, hm⟩, ⟨pf, H_this_past, hp⟩, ⟨tf, H_this_typed, htf⟩, ⟨⟨ns, H_this_newSizes⟩, nl, H_this_newLetters⟩, ⟨⟨wd, H_this_wide⟩, HM, ⟨be, H_this_begins⟩, wi, H_this_with⟩, ⟨se, H_this_seen, hse⟩, ⟨bo, H_this_book, hbo⟩, ⟨⟨bb, H_this_beginsBy⟩, ib, H_this_isBy⟩, imf, kp, H_this_images, H_this_isKept, hi0, hi1⟩ := id HR
  obtain ⟨k2, k3, k5, k6, k19, k21⟩ := K
  obtain ⟨HT, hty, hfa, hpo, hsd, hg0, hg1, hsu, hbk⟩ := id HO
  have hN : T.1.length ≤ 40 := HT.1.1
  have e0 : sf (0 : Int).toNat = (T.1.length : Int) := hm.1
  have eD : T.1.getD w [] = T.1[w] := by simp [hc]
  rw [eD]
  refine eb_T.of (by decide +kernel) (Nat.le_of_ble_eq_true rfl) ?_
  show eb_V _ _ 0 [.ref 67, .int (eb_I (w : Int)), .int (eb_I 1)] [] (n, 0, 0) h _
  have n5 : ((5 : Int) + (w : Int)).toNat = 5 + w := by omega
  obtain ⟨m0, m1, m2, m3, m4, m5⟩ := id hm
  refine V_aload_n eX10_word_0 rfl rfl ?_
  refine V_iload_n eX10_word_1 rfl rfl ?_
  refine V_cvi eX10_word_2 (c_X10_isWord (n := n) H_this H_this_st hm hN (by omega)) H_this rfl rfl (Nat.le_of_ble_eq_true rfl) ⟨rfl, rfl⟩ ⟨Nat.zero_le _, Nat.zero_le _⟩ ?_
  rw [if_pos (by omega)]
  refine V_if_ne (tgt := 11) eX10_word_5 rfl (by omega) (fun c_5 => ?_) (fun c_5 => ?_)
  · refine V_iload_n eX10_word_11 rfl rfl ?_
    refine V_i2lI eX10_word_12 (by omega) ?_
    refine V_lconst (b := 0) eX10_word_13 (by decide) ?_
    refine V_ldc2 (a := 15) eX10_word_14 wd_842 (by decide) ?_
    refine V_csi eX10_word_17 (c_X10_in (by omega)) rfl rfl (Nat.le_of_ble_eq_true rfl) ⟨rfl, rfl⟩ ⟨Nat.zero_le _, Nat.zero_le _⟩ ?_
    rw [if_pos (by omega)]
    refine V_if_ne (tgt := 26) eX10_word_20 rfl (by omega) (fun c_20 => ?_) (fun c_20 => ?_)
    · refine V_iload_n eX10_word_26 rfl rfl ?_
      refine V_tswIn (tgt := 62) (off := 35) eX10_word_27 (by omega) (by omega) rfl rfl ?_
      refine V_aload_n eX10_word_62 rfl rfl ?_
      refine V_getf eX10_word_63 H_this rfl ?_
      refine V_iconst eX10_word_66 ?_
      refine V_iload_n eX10_word_67 rfl rfl ?_
      refine V_iadd eX10_word_68 ?_
      refine V_iald eX10_word_69 H_this_st (by omega) ?_
      rw [n5, (m5 w hc).1]
      exact V_iret eX10_word_70 ⟨Nat.zero_le _, Nat.zero_le _⟩ rfl (rfl) (⟨rfl, rfl, ⟨cc, HR⟩, fun _ _ => rfl⟩)
    · exact absurd c_20 (by decide)
  · exact absurd c_5 (by decide)
theorem x10_word_2 {w : Nat} (HR : MR h T ty fa past seed i0 i1 sees book) (HO : SOK T ty fa past seed i0 i1 sees book) (hc : w < T.1.length) : eb_T mX10_word [.ref 67, .int (eb_I (w : Int)), .int (eb_I 2)] n h (eb_G (some (.int (eb_I ((br_ln (lt_B (txq T)) w (lt_B (txq T)).length 0 : Nat))))) n (fun h' => MR h' T ty fa past seed i0 i1 sees book ∧ L67 h h')) := by
  obtain ⟨cc, HR⟩ := HR
  obtain ⟨H_this, K, ⟨sf, H_this_st, hm⟩, ⟨pf, H_this_past, hp⟩, ⟨tf, H_this_typed, htf⟩, ⟨⟨ns, H_this_newSizes⟩, nl, H_this_newLetters⟩, ⟨⟨wd, H_this_wide⟩, HM, ⟨be, H_this_begins⟩, wi, H_this_with⟩, ⟨se, H_this_seen, hse⟩, ⟨bo, H_this_book, hbo⟩, ⟨⟨bb, H_this_beginsBy⟩, ib, H_this_isBy⟩, imf, kp, H_this_images, H_this_isKept, hi0, hi1⟩ := id HR
  obtain ⟨k2, k3, k5, k6, k19, k21⟩ := K
  obtain ⟨HT, hty, hfa, hpo, hsd, hg0, hg1, hsu, hbk⟩ := id HO
  have hN : T.1.length ≤ 40 := HT.1.1
  have e0 : sf (0 : Int).toNat = (T.1.length : Int) := hm.1
  refine eb_T.of (by decide +kernel) (Nat.le_of_ble_eq_true rfl) ?_
  show eb_V _ _ 0 [.ref 67, .int (eb_I (w : Int)), .int (eb_I 2)] [] (n, 0, 0) h _
  have TL := c_X10_lineOf (n := n) H_this H_this_st hm HT H_this_wide HM H_this_begins hc
  refine V_aload_n eX10_word_0 rfl rfl ?_
  refine V_iload_n eX10_word_1 rfl rfl ?_
  refine V_cvi eX10_word_2 (c_X10_isWord (n := n) H_this H_this_st hm hN (by omega)) H_this rfl rfl (Nat.le_of_ble_eq_true rfl) ⟨rfl, rfl⟩ ⟨Nat.zero_le _, Nat.zero_le _⟩ ?_
  rw [if_pos (by omega)]
  refine V_if_ne (tgt := 11) eX10_word_5 rfl (by omega) (fun c_5 => ?_) (fun c_5 => ?_)
  · refine V_iload_n eX10_word_11 rfl rfl ?_
    refine V_i2lI eX10_word_12 (by omega) ?_
    refine V_lconst (b := 0) eX10_word_13 (by decide) ?_
    refine V_ldc2 (a := 15) eX10_word_14 wd_842 (by decide) ?_
    refine V_csi eX10_word_17 (c_X10_in (by omega)) rfl rfl (Nat.le_of_ble_eq_true rfl) ⟨rfl, rfl⟩ ⟨Nat.zero_le _, Nat.zero_le _⟩ ?_
    rw [if_pos (by omega)]
    refine V_if_ne (tgt := 26) eX10_word_20 rfl (by omega) (fun c_20 => ?_) (fun c_20 => ?_)
    · refine V_iload_n eX10_word_26 rfl rfl ?_
      refine V_tswIn (tgt := 71) (off := 44) eX10_word_27 (by omega) (by omega) rfl rfl ?_
      refine V_aload_n eX10_word_71 rfl rfl ?_
      refine V_iload_n eX10_word_72 rfl rfl ?_
      refine V_cvg eX10_word_73 (TL) H_this rfl rfl (Nat.le_of_ble_eq_true rfl) ⟨rfl, rfl⟩ ⟨Nat.zero_le _, Nat.zero_le _⟩ (fun h1 ⟨HL1, hfr1⟩ => ?_)
      show eb_V _ _ 76 _ [.int (eb_I _)] _ _ _
      exact V_iret eX10_word_76 ⟨Nat.zero_le _, Nat.zero_le _⟩ rfl (rfl) (⟨rfl, rfl, HR.lines HL1 hfr1⟩)
    · exact absurd c_20 (by decide)
  · exact absurd c_5 (by decide)
theorem x10_word_3 {w : Nat} {v : Int} (HR : MR h T ty fa past seed i0 i1 sees book) (HO : SOK T ty fa past seed i0 i1 sees book) (hc : w < T.1.length) (hv : lc (fun m => (1 ≤ m ∧ m ≤ 50) ∧ br_mk (gw_B T w m) ≠ br_mk (gw_B T w 0)) v) : eb_T mX10_word [.ref 67, .int (eb_I (w : Int)), .int (eb_I 3)] n h (eb_G (some (.int (eb_I (v)))) n (fun h' => MR h' T ty fa past seed i0 i1 sees book ∧ L67 h h')) := by
  obtain ⟨cc, HR⟩ := HR
  obtain ⟨H_this, K, ⟨sf, H_this_st, hm⟩, ⟨pf, H_this_past, hp⟩, ⟨tf, H_this_typed, htf⟩, ⟨⟨ns, H_this_newSizes⟩, nl, H_this_newLetters⟩, ⟨⟨wd, H_this_wide⟩, HM, ⟨be, H_this_begins⟩, wi, H_this_with⟩, ⟨se, H_this_seen, hse⟩, ⟨bo, H_this_book, hbo⟩, ⟨⟨bb, H_this_beginsBy⟩, ib, H_this_isBy⟩, imf, kp, H_this_images, H_this_isKept, hi0, hi1⟩ := id HR
  obtain ⟨k2, k3, k5, k6, k19, k21⟩ := K
  obtain ⟨HT, hty, hfa, hpo, hsd, hg0, hg1, hsu, hbk⟩ := id HO
  have hN : T.1.length ≤ 40 := HT.1.1
  have e0 : sf (0 : Int).toNat = (T.1.length : Int) := hm.1
  refine eb_T.of (by decide +kernel) (Nat.le_of_ble_eq_true rfl) ?_
  show eb_V _ _ 0 [.ref 67, .int (eb_I (w : Int)), .int (eb_I 3)] [] (n, 0, 0) h _
  have TL := c_X10_growsOf (n := n) H_this H_this_st hm HT H_this_wide HM H_this_begins hc hv
  refine V_aload_n eX10_word_0 rfl rfl ?_
  refine V_iload_n eX10_word_1 rfl rfl ?_
  refine V_cvi eX10_word_2 (c_X10_isWord (n := n) H_this H_this_st hm hN (by omega)) H_this rfl rfl (Nat.le_of_ble_eq_true rfl) ⟨rfl, rfl⟩ ⟨Nat.zero_le _, Nat.zero_le _⟩ ?_
  rw [if_pos (by omega)]
  refine V_if_ne (tgt := 11) eX10_word_5 rfl (by omega) (fun c_5 => ?_) (fun c_5 => ?_)
  · refine V_iload_n eX10_word_11 rfl rfl ?_
    refine V_i2lI eX10_word_12 (by omega) ?_
    refine V_lconst (b := 0) eX10_word_13 (by decide) ?_
    refine V_ldc2 (a := 15) eX10_word_14 wd_842 (by decide) ?_
    refine V_csi eX10_word_17 (c_X10_in (by omega)) rfl rfl (Nat.le_of_ble_eq_true rfl) ⟨rfl, rfl⟩ ⟨Nat.zero_le _, Nat.zero_le _⟩ ?_
    rw [if_pos (by omega)]
    refine V_if_ne (tgt := 26) eX10_word_20 rfl (by omega) (fun c_20 => ?_) (fun c_20 => ?_)
    · refine V_iload_n eX10_word_26 rfl rfl ?_
      refine V_tswIn (tgt := 77) (off := 50) eX10_word_27 (by omega) (by omega) rfl rfl ?_
      refine V_aload_n eX10_word_77 rfl rfl ?_
      refine V_iload_n eX10_word_78 rfl rfl ?_
      refine V_cvg eX10_word_79 (TL) H_this rfl rfl (Nat.le_of_ble_eq_true rfl) ⟨rfl, rfl⟩ ⟨Nat.zero_le _, Nat.zero_le _⟩ (fun h1 ⟨⟨⟨lm, D1⟩, D2, D3, D4⟩, D5⟩ => ?_)
      show eb_V _ _ 82 _ [.int (eb_I _)] _ _ _
      exact V_iret eX10_word_82 ⟨Nat.zero_le _, Nat.zero_le _⟩ rfl (rfl) (⟨rfl, rfl, HR.lined D1 D2 D3 D4 D5⟩)
    · exact absurd c_20 (by decide)
  · exact absurd c_5 (by decide)
theorem x10_word_l {w i : Nat} (HR : MR h T ty fa past seed i0 i1 sees book) (HO : SOK T ty fa past seed i0 i1 sees book) (hc : w < T.1.length) (hi : i < 12) : eb_T mX10_word [.ref 67, .int (eb_I (w : Int)), .int (eb_I ((i + 4 : Nat) : Int))] n h (eb_G (some (.int (eb_I (sp_at (T.1.getD w []) i)))) n (fun h' => MR h' T ty fa past seed i0 i1 sees book ∧ L67 h h')) := by
  obtain ⟨cc, HR⟩ := HR
  obtain ⟨H_this, K, ⟨sf, H_this_st, hm⟩, ⟨pf, H_this_past, hp⟩, ⟨tf, H_this_typed, htf⟩, ⟨⟨ns, H_this_newSizes⟩, nl, H_this_newLetters⟩, ⟨⟨wd, H_this_wide⟩, HM, ⟨be, H_this_begins⟩, wi, H_this_with⟩, ⟨se, H_this_seen, hse⟩, ⟨bo, H_this_book, hbo⟩, ⟨⟨bb, H_this_beginsBy⟩, ib, H_this_isBy⟩, imf, kp, H_this_images, H_this_isKept, hi0, hi1⟩ := id HR
  obtain ⟨k2, k3, k5, k6, k19, k21⟩ := K
  obtain ⟨HT, hty, hfa, hpo, hsd, hg0, hg1, hsu, hbk⟩ := id HO
  have hN : T.1.length ≤ 40 := HT.1.1
  have e0 : sf (0 : Int).toNat = (T.1.length : Int) := hm.1
  have eD : T.1.getD w [] = T.1[w] := by simp [hc]
  rw [eD]
  refine eb_T.of (by decide +kernel) (Nat.le_of_ble_eq_true rfl) ?_
  show eb_V _ _ 0 [.ref 67, .int (eb_I (w : Int)), .int (eb_I ((i + 4 : Nat) : Int))] [] (n, 0, 0) h _
  have n5 : ((5 : Int) + (w : Int)).toNat = 5 + w := by omega
  obtain ⟨m0, m1, m2, m3, m4, m5⟩ := id hm
  have hlw := (HT.2 _ (List.getElem_mem hc)).1.2
  by_cases y : i < T.1[w].length
  · have ea : sp_at T.1[w] i = (T.1[w][i] : Int) := by simp [sp_at, y]
    have n6 : ((45 : Int) + 12 * (w : Int) + ((i + 4 : Nat) : Int) - 4).toNat = 45 + 12 * w + i := by omega
    rw [ea]
    refine V_aload_n eX10_word_0 rfl rfl ?_
    refine V_iload_n eX10_word_1 rfl rfl ?_
    refine V_cvi eX10_word_2 (c_X10_isWord (n := n) H_this H_this_st hm hN (by omega)) H_this rfl rfl (Nat.le_of_ble_eq_true rfl) ⟨rfl, rfl⟩ ⟨Nat.zero_le _, Nat.zero_le _⟩ ?_
    rw [if_pos (by omega)]
    refine V_if_ne (tgt := 11) eX10_word_5 rfl (by omega) (fun c_5 => ?_) (fun c_5 => ?_)
    · refine V_iload_n eX10_word_11 rfl rfl ?_
      refine V_i2lI eX10_word_12 (by omega) ?_
      refine V_lconst (b := 0) eX10_word_13 (by decide) ?_
      refine V_ldc2 (a := 15) eX10_word_14 wd_842 (by decide) ?_
      refine V_csi eX10_word_17 (c_X10_in (by omega)) rfl rfl (Nat.le_of_ble_eq_true rfl) ⟨rfl, rfl⟩ ⟨Nat.zero_le _, Nat.zero_le _⟩ ?_
      rw [if_pos (by omega)]
      refine V_if_ne (tgt := 26) eX10_word_20 rfl (by omega) (fun c_20 => ?_) (fun c_20 => ?_)
      · refine V_iload_n eX10_word_26 rfl rfl ?_
        refine V_tswOut (tgt := 83) eX10_word_27 (by omega) (Or.inr (by omega)) rfl ?_
        refine V_iload_n eX10_word_83 rfl rfl ?_
        refine V_iconst eX10_word_84 ?_
        refine V_isub eX10_word_85 ?_
        refine V_eqI (b := (i : Int)) (by omega) ?_
        refine V_aload_n eX10_word_86 rfl rfl ?_
        refine V_getf eX10_word_87 H_this rfl ?_
        refine V_iconst eX10_word_90 ?_
        refine V_iload_n eX10_word_91 rfl rfl ?_
        refine V_iadd eX10_word_92 ?_
        refine V_iald eX10_word_93 H_this_st (by omega) ?_
        rw [n5, (m5 w hc).1]
        refine V_icmp_ge (tgt := 116) eX10_word_94 rfl (by omega) (fun c_94 => ?_) (fun c_94 => ?_)
        · exact absurd c_94 (by omega)
        · refine V_aload_n eX10_word_97 rfl rfl ?_
          refine V_getf eX10_word_98 H_this rfl ?_
          refine V_bipush eX10_word_101 (by decide) ?_
          refine V_bipush eX10_word_103 (by decide) ?_
          refine V_iload_n eX10_word_105 rfl rfl ?_
          refine V_imul eX10_word_106 ?_
          refine V_iadd eX10_word_107 ?_
          refine V_iload_n eX10_word_108 rfl rfl ?_
          refine V_iadd eX10_word_109 ?_
          refine V_iconst eX10_word_110 ?_
          refine V_isub eX10_word_111 ?_
          refine V_iald eX10_word_112 H_this_st (by omega) ?_
          rw [n6, (m5 w hc).2 i y]
          refine V_goto (tgt := 117) eX10_word_113 rfl ?_
          exact V_iret eX10_word_117 ⟨Nat.zero_le _, Nat.zero_le _⟩ rfl (rfl) (⟨rfl, rfl, ⟨cc, HR⟩, fun _ _ => rfl⟩)
      · exact absurd c_20 (by decide)
    · exact absurd c_5 (by decide)
  · have ea : sp_at T.1[w] i = -1 := by
      have : T.1[w][i]? = none := List.getElem?_eq_none (by omega)
      simp [sp_at, this]
    rw [ea]
    refine V_aload_n eX10_word_0 rfl rfl ?_
    refine V_iload_n eX10_word_1 rfl rfl ?_
    refine V_cvi eX10_word_2 (c_X10_isWord (n := n) H_this H_this_st hm hN (by omega)) H_this rfl rfl (Nat.le_of_ble_eq_true rfl) ⟨rfl, rfl⟩ ⟨Nat.zero_le _, Nat.zero_le _⟩ ?_
    rw [if_pos (by omega)]
    refine V_if_ne (tgt := 11) eX10_word_5 rfl (by omega) (fun c_5 => ?_) (fun c_5 => ?_)
    · refine V_iload_n eX10_word_11 rfl rfl ?_
      refine V_i2lI eX10_word_12 (by omega) ?_
      refine V_lconst (b := 0) eX10_word_13 (by decide) ?_
      refine V_ldc2 (a := 15) eX10_word_14 wd_842 (by decide) ?_
      refine V_csi eX10_word_17 (c_X10_in (by omega)) rfl rfl (Nat.le_of_ble_eq_true rfl) ⟨rfl, rfl⟩ ⟨Nat.zero_le _, Nat.zero_le _⟩ ?_
      rw [if_pos (by omega)]
      refine V_if_ne (tgt := 26) eX10_word_20 rfl (by omega) (fun c_20 => ?_) (fun c_20 => ?_)
      · refine V_iload_n eX10_word_26 rfl rfl ?_
        refine V_tswOut (tgt := 83) eX10_word_27 (by omega) (Or.inr (by omega)) rfl ?_
        refine V_iload_n eX10_word_83 rfl rfl ?_
        refine V_iconst eX10_word_84 ?_
        refine V_isub eX10_word_85 ?_
        refine V_eqI (b := (i : Int)) (by omega) ?_
        refine V_aload_n eX10_word_86 rfl rfl ?_
        refine V_getf eX10_word_87 H_this rfl ?_
        refine V_iconst eX10_word_90 ?_
        refine V_iload_n eX10_word_91 rfl rfl ?_
        refine V_iadd eX10_word_92 ?_
        refine V_iald eX10_word_93 H_this_st (by omega) ?_
        rw [n5, (m5 w hc).1]
        refine V_icmp_ge (tgt := 116) eX10_word_94 rfl (by omega) (fun c_94 => ?_) (fun c_94 => ?_)
        · refine V_iconst eX10_word_116 ?_
          exact V_iret eX10_word_117 ⟨Nat.zero_le _, Nat.zero_le _⟩ rfl (rfl) (⟨rfl, rfl, ⟨cc, HR⟩, fun _ _ => rfl⟩)
        · exact absurd c_94 (by omega)
      · exact absurd c_20 (by decide)
    · exact absurd c_5 (by decide)
theorem x10_line_unk {k w : Int} (HR : MR h T ty fa past seed i0 i1 sees book) (HO : SOK T ty fa past seed i0 i1 sees book) (hk : -2147483648 ≤ k ∧ k ≤ 2147483647) (hc : ¬ (0 ≤ k ∧ k < ((lt_B (txq T)).length : Int))) : eb_T mX10_line [.ref 67, .int (eb_I k), .int (eb_I w)] n h (eb_G (some (.int (eb_I (-1000000001)))) n (fun h' => MR h' T ty fa past seed i0 i1 sees book ∧ L67 h h')) := by
  obtain ⟨cc, HR⟩ := HR
  obtain ⟨H_this, K, ⟨sf, H_this_st, hm⟩, ⟨pf, H_this_past, hp⟩, ⟨tf, H_this_typed, htf⟩, ⟨⟨ns, H_this_newSizes⟩, nl, H_this_newLetters⟩, ⟨⟨wd, H_this_wide⟩, HM, ⟨be, H_this_begins⟩, wi, H_this_with⟩, ⟨se, H_this_seen, hse⟩, ⟨bo, H_this_book, hbo⟩, ⟨⟨bb, H_this_beginsBy⟩, ib, H_this_isBy⟩, imf, kp, H_this_images, H_this_isKept, hi0, hi1⟩ := id HR
  obtain ⟨k2, k3, k5, k6, k19, k21⟩ := K
  obtain ⟨HT, hty, hfa, hpo, hsd, hg0, hg1, hsu, hbk⟩ := id HO
  have hN : T.1.length ≤ 40 := HT.1.1
  have e0 : sf (0 : Int).toNat = (T.1.length : Int) := hm.1
  refine eb_T.of (by decide +kernel) (Nat.le_of_ble_eq_true rfl) ?_
  show eb_V _ _ 0 [.ref 67, .int (eb_I k), .int (eb_I w)] [] (n, 0, 0) h _
  have TL := c_X10_layLines (n := n) H_this H_this_st hm HT H_this_wide HM H_this_begins
  obtain ⟨u1, u2⟩ := lt_B_up (tx_lok HT)
  have u1' : ∀ x ∈ lt_B (txq T), x < T.1.length := u1
  have hlB : (lt_B (txq T)).length ≤ 40 := Nat.le_trans (br_len u1' u2) hN
  refine V_aload_n eX10_line_0 rfl rfl ?_
  refine V_cvg eX10_line_1 (TL) H_this rfl rfl (Nat.le_of_ble_eq_true rfl) ⟨rfl, rfl⟩ ⟨Nat.zero_le _, Nat.zero_le _⟩ (fun h1 ⟨HL1, hfr1⟩ => ?_)
  show eb_V _ _ 4 _ [] _ _ _
  obtain ⟨⟨G1, be1, G2, G3, G3b⟩, ⟨up, co, to, ow, U, C, O, W, q1, q2, q3, q4⟩, G4⟩ := id HL1
  have H_this := G1
  have H_this_begins := G2
  have H_this_upTo := U
  have H_this_costs := C
  have H_this_totals := O
  have H_this_owners := W
  have H_this_st : h1 68 = _ := (hfr1 68 (by omega) (by omega)).trans H_this_st
  refine V_iload_n eX10_line_4 rfl rfl ?_
  refine V_i2lI eX10_line_5 (by omega) ?_
  refine V_lconst (b := 0) eX10_line_6 (by decide) ?_
  refine V_aload_n eX10_line_7 rfl rfl ?_
  refine V_getf eX10_line_8 H_this rfl ?_
  show eb_V _ _ 11 _ [.int (eb_I ((lt_B (txq T)).length : Int)), _, _] _ _ _
  refine V_iconst eX10_line_11 ?_
  refine V_isub eX10_line_12 ?_
  refine V_i2lI eX10_line_13 (by omega) ?_
  refine V_csi eX10_line_14 (c_X10_in (by omega)) rfl rfl (Nat.le_of_ble_eq_true rfl) ⟨rfl, rfl⟩ ⟨Nat.zero_le _, Nat.zero_le _⟩ ?_
  rw [if_neg (by omega)]
  refine V_if_ne (tgt := 23) eX10_line_17 rfl (by omega) (fun c_17 => ?_) (fun c_17 => ?_)
  · exact absurd rfl c_17
  · refine V_ldc (a := -1000000001) eX10_line_20 wd_841 (by decide) ?_
    exact V_iret eX10_line_22 ⟨Nat.zero_le _, Nat.zero_le _⟩ rfl (rfl) (⟨rfl, rfl, HR.lines HL1 hfr1⟩)
theorem x10_line_0 {k : Nat} (HR : MR h T ty fa past seed i0 i1 sees book) (HO : SOK T ty fa past seed i0 i1 sees book) (hc : k < (lt_B (txq T)).length) : eb_T mX10_line [.ref 67, .int (eb_I (k : Int)), .int (eb_I 0)] n h (eb_G (some (.int (eb_I (((lt_B (txq T)).getD k 0 : Nat))))) n (fun h' => MR h' T ty fa past seed i0 i1 sees book ∧ L67 h h')) := by
  obtain ⟨cc, HR⟩ := HR
  obtain ⟨H_this, K, ⟨sf, H_this_st, hm⟩, ⟨pf, H_this_past, hp⟩, ⟨tf, H_this_typed, htf⟩, ⟨⟨ns, H_this_newSizes⟩, nl, H_this_newLetters⟩, ⟨⟨wd, H_this_wide⟩, HM, ⟨be, H_this_begins⟩, wi, H_this_with⟩, ⟨se, H_this_seen, hse⟩, ⟨bo, H_this_book, hbo⟩, ⟨⟨bb, H_this_beginsBy⟩, ib, H_this_isBy⟩, imf, kp, H_this_images, H_this_isKept, hi0, hi1⟩ := id HR
  obtain ⟨k2, k3, k5, k6, k19, k21⟩ := K
  obtain ⟨HT, hty, hfa, hpo, hsd, hg0, hg1, hsu, hbk⟩ := id HO
  have hN : T.1.length ≤ 40 := HT.1.1
  have e0 : sf (0 : Int).toNat = (T.1.length : Int) := hm.1
  refine eb_T.of (by decide +kernel) (Nat.le_of_ble_eq_true rfl) ?_
  show eb_V _ _ 0 [.ref 67, .int (eb_I (k : Int)), .int (eb_I 0)] [] (n, 0, 0) h _
  have TL := c_X10_layLines (n := n) H_this H_this_st hm HT H_this_wide HM H_this_begins
  obtain ⟨u1, u2⟩ := lt_B_up (tx_lok HT)
  have u1' : ∀ x ∈ lt_B (txq T), x < T.1.length := u1
  have hlB : (lt_B (txq T)).length ≤ 40 := Nat.le_trans (br_len u1' u2) hN
  have hB := B_at u1' u2 hc
  have n1 : ((k : Int) + 1).toNat = k + 1 := by omega
  refine V_aload_n eX10_line_0 rfl rfl ?_
  refine V_cvg eX10_line_1 (TL) H_this rfl rfl (Nat.le_of_ble_eq_true rfl) ⟨rfl, rfl⟩ ⟨Nat.zero_le _, Nat.zero_le _⟩ (fun h1 ⟨HL1, hfr1⟩ => ?_)
  show eb_V _ _ 4 _ [] _ _ _
  obtain ⟨⟨G1, be1, G2, G3, G3b⟩, ⟨up, co, to, ow, U, C, O, W, q1, q2, q3, q4⟩, G4⟩ := id HL1
  have H_this := G1
  have H_this_begins := G2
  have H_this_upTo := U
  have H_this_costs := C
  have H_this_totals := O
  have H_this_owners := W
  have H_this_st : h1 68 = _ := (hfr1 68 (by omega) (by omega)).trans H_this_st
  have f1 : be1 k = ((lt_B (txq T)).getD k 0 : Int) := by rw [G3 k hc]; simp [hc]
  have f2 : be1 (k + 1) = (rv_e (lt_B (txq T)) T.1.length k : Int) := by
    unfold rv_e
    by_cases y : k + 1 < (lt_B (txq T)).length
    · rw [if_pos y, G3 _ y]; simp [y]
    · rw [if_neg y, show k + 1 = (lt_B (txq T)).length by omega, G3b]
  refine V_iload_n eX10_line_4 rfl rfl ?_
  refine V_i2lI eX10_line_5 (by omega) ?_
  refine V_lconst (b := 0) eX10_line_6 (by decide) ?_
  refine V_aload_n eX10_line_7 rfl rfl ?_
  refine V_getf eX10_line_8 H_this rfl ?_
  show eb_V _ _ 11 _ [.int (eb_I ((lt_B (txq T)).length : Int)), _, _] _ _ _
  refine V_iconst eX10_line_11 ?_
  refine V_isub eX10_line_12 ?_
  refine V_i2lI eX10_line_13 (by omega) ?_
  refine V_csi eX10_line_14 (c_X10_in (by omega)) rfl rfl (Nat.le_of_ble_eq_true rfl) ⟨rfl, rfl⟩ ⟨Nat.zero_le _, Nat.zero_le _⟩ ?_
  rw [if_pos (by omega)]
  refine V_if_ne (tgt := 23) eX10_line_17 rfl (by omega) (fun c_17 => ?_) (fun c_17 => ?_)
  · refine V_iload_n eX10_line_23 rfl rfl ?_
    refine V_tswIn (tgt := 56) (off := 32) eX10_line_24 (by omega) (by omega) rfl rfl ?_
    refine V_aload_n eX10_line_56 rfl rfl ?_
    refine V_getf eX10_line_57 H_this rfl ?_
    refine V_iload_n eX10_line_60 rfl rfl ?_
    refine V_iald eX10_line_61 H_this_begins (by omega) ?_
    rw [Int.toNat_natCast, f1]
    exact V_iret eX10_line_62 ⟨Nat.zero_le _, Nat.zero_le _⟩ rfl (rfl) (⟨rfl, rfl, HR.lines HL1 hfr1⟩)
  · exact absurd c_17 (by decide)
theorem x10_line_1 {k : Nat} (HR : MR h T ty fa past seed i0 i1 sees book) (HO : SOK T ty fa past seed i0 i1 sees book) (hc : k < (lt_B (txq T)).length) : eb_T mX10_line [.ref 67, .int (eb_I (k : Int)), .int (eb_I 1)] n h (eb_G (some (.int (eb_I ((rv_e (lt_B (txq T)) T.1.length k : Nat))))) n (fun h' => MR h' T ty fa past seed i0 i1 sees book ∧ L67 h h')) := by
  obtain ⟨cc, HR⟩ := HR
  obtain ⟨H_this, K, ⟨sf, H_this_st, hm⟩, ⟨pf, H_this_past, hp⟩, ⟨tf, H_this_typed, htf⟩, ⟨⟨ns, H_this_newSizes⟩, nl, H_this_newLetters⟩, ⟨⟨wd, H_this_wide⟩, HM, ⟨be, H_this_begins⟩, wi, H_this_with⟩, ⟨se, H_this_seen, hse⟩, ⟨bo, H_this_book, hbo⟩, ⟨⟨bb, H_this_beginsBy⟩, ib, H_this_isBy⟩, imf, kp, H_this_images, H_this_isKept, hi0, hi1⟩ := id HR
  obtain ⟨k2, k3, k5, k6, k19, k21⟩ := K
  obtain ⟨HT, hty, hfa, hpo, hsd, hg0, hg1, hsu, hbk⟩ := id HO
  have hN : T.1.length ≤ 40 := HT.1.1
  have e0 : sf (0 : Int).toNat = (T.1.length : Int) := hm.1
  refine eb_T.of (by decide +kernel) (Nat.le_of_ble_eq_true rfl) ?_
  show eb_V _ _ 0 [.ref 67, .int (eb_I (k : Int)), .int (eb_I 1)] [] (n, 0, 0) h _
  have TL := c_X10_layLines (n := n) H_this H_this_st hm HT H_this_wide HM H_this_begins
  obtain ⟨u1, u2⟩ := lt_B_up (tx_lok HT)
  have u1' : ∀ x ∈ lt_B (txq T), x < T.1.length := u1
  have hlB : (lt_B (txq T)).length ≤ 40 := Nat.le_trans (br_len u1' u2) hN
  have hB := B_at u1' u2 hc
  have n1 : ((k : Int) + 1).toNat = k + 1 := by omega
  refine V_aload_n eX10_line_0 rfl rfl ?_
  refine V_cvg eX10_line_1 (TL) H_this rfl rfl (Nat.le_of_ble_eq_true rfl) ⟨rfl, rfl⟩ ⟨Nat.zero_le _, Nat.zero_le _⟩ (fun h1 ⟨HL1, hfr1⟩ => ?_)
  show eb_V _ _ 4 _ [] _ _ _
  obtain ⟨⟨G1, be1, G2, G3, G3b⟩, ⟨up, co, to, ow, U, C, O, W, q1, q2, q3, q4⟩, G4⟩ := id HL1
  have H_this := G1
  have H_this_begins := G2
  have H_this_upTo := U
  have H_this_costs := C
  have H_this_totals := O
  have H_this_owners := W
  have H_this_st : h1 68 = _ := (hfr1 68 (by omega) (by omega)).trans H_this_st
  have f1 : be1 k = ((lt_B (txq T)).getD k 0 : Int) := by rw [G3 k hc]; simp [hc]
  have f2 : be1 (k + 1) = (rv_e (lt_B (txq T)) T.1.length k : Int) := by
    unfold rv_e
    by_cases y : k + 1 < (lt_B (txq T)).length
    · rw [if_pos y, G3 _ y]; simp [y]
    · rw [if_neg y, show k + 1 = (lt_B (txq T)).length by omega, G3b]
  refine V_iload_n eX10_line_4 rfl rfl ?_
  refine V_i2lI eX10_line_5 (by omega) ?_
  refine V_lconst (b := 0) eX10_line_6 (by decide) ?_
  refine V_aload_n eX10_line_7 rfl rfl ?_
  refine V_getf eX10_line_8 H_this rfl ?_
  show eb_V _ _ 11 _ [.int (eb_I ((lt_B (txq T)).length : Int)), _, _] _ _ _
  refine V_iconst eX10_line_11 ?_
  refine V_isub eX10_line_12 ?_
  refine V_i2lI eX10_line_13 (by omega) ?_
  refine V_csi eX10_line_14 (c_X10_in (by omega)) rfl rfl (Nat.le_of_ble_eq_true rfl) ⟨rfl, rfl⟩ ⟨Nat.zero_le _, Nat.zero_le _⟩ ?_
  rw [if_pos (by omega)]
  refine V_if_ne (tgt := 23) eX10_line_17 rfl (by omega) (fun c_17 => ?_) (fun c_17 => ?_)
  · refine V_iload_n eX10_line_23 rfl rfl ?_
    refine V_tswIn (tgt := 63) (off := 39) eX10_line_24 (by omega) (by omega) rfl rfl ?_
    refine V_aload_n eX10_line_63 rfl rfl ?_
    refine V_getf eX10_line_64 H_this rfl ?_
    refine V_iload_n eX10_line_67 rfl rfl ?_
    refine V_iconst eX10_line_68 ?_
    refine V_iadd eX10_line_69 ?_
    refine V_iald eX10_line_70 H_this_begins (by omega) ?_
    rw [n1, f2]
    exact V_iret eX10_line_71 ⟨Nat.zero_le _, Nat.zero_le _⟩ rfl (rfl) (⟨rfl, rfl, HR.lines HL1 hfr1⟩)
  · exact absurd c_17 (by decide)
theorem x10_line_2 {k : Nat} (HR : MR h T ty fa past seed i0 i1 sees book) (HO : SOK T ty fa past seed i0 i1 sees book) (hc : k < (lt_B (txq T)).length) : eb_T mX10_line [.ref 67, .int (eb_I (k : Int)), .int (eb_I 2)] n h (eb_G (some (.int (eb_I (lt_pl (tx_wf T.1) (rv_e (lt_B (txq T)) T.1.length k) - lt_pl (tx_wf T.1) ((lt_B (txq T)).getD k 0) - 1)))) n (fun h' => MR h' T ty fa past seed i0 i1 sees book ∧ L67 h h')) := by
  obtain ⟨cc, HR⟩ := HR
  obtain ⟨H_this, K, ⟨sf, H_this_st, hm⟩, ⟨pf, H_this_past, hp⟩, ⟨tf, H_this_typed, htf⟩, ⟨⟨ns, H_this_newSizes⟩, nl, H_this_newLetters⟩, ⟨⟨wd, H_this_wide⟩, HM, ⟨be, H_this_begins⟩, wi, H_this_with⟩, ⟨se, H_this_seen, hse⟩, ⟨bo, H_this_book, hbo⟩, ⟨⟨bb, H_this_beginsBy⟩, ib, H_this_isBy⟩, imf, kp, H_this_images, H_this_isKept, hi0, hi1⟩ := id HR
  obtain ⟨k2, k3, k5, k6, k19, k21⟩ := K
  obtain ⟨HT, hty, hfa, hpo, hsd, hg0, hg1, hsu, hbk⟩ := id HO
  have hN : T.1.length ≤ 40 := HT.1.1
  have e0 : sf (0 : Int).toNat = (T.1.length : Int) := hm.1
  refine eb_T.of (by decide +kernel) (Nat.le_of_ble_eq_true rfl) ?_
  show eb_V _ _ 0 [.ref 67, .int (eb_I (k : Int)), .int (eb_I 2)] [] (n, 0, 0) h _
  have TL := c_X10_layLines (n := n) H_this H_this_st hm HT H_this_wide HM H_this_begins
  obtain ⟨u1, u2⟩ := lt_B_up (tx_lok HT)
  have u1' : ∀ x ∈ lt_B (txq T), x < T.1.length := u1
  have hlB : (lt_B (txq T)).length ≤ 40 := Nat.le_trans (br_len u1' u2) hN
  have hB := B_at u1' u2 hc
  have n1 : ((k : Int) + 1).toNat = k + 1 := by omega
  refine V_aload_n eX10_line_0 rfl rfl ?_
  refine V_cvg eX10_line_1 (TL) H_this rfl rfl (Nat.le_of_ble_eq_true rfl) ⟨rfl, rfl⟩ ⟨Nat.zero_le _, Nat.zero_le _⟩ (fun h1 ⟨HL1, hfr1⟩ => ?_)
  show eb_V _ _ 4 _ [] _ _ _
  obtain ⟨⟨G1, be1, G2, G3, G3b⟩, ⟨up, co, to, ow, U, C, O, W, q1, q2, q3, q4⟩, G4⟩ := id HL1
  have H_this := G1
  have H_this_begins := G2
  have H_this_upTo := U
  have H_this_costs := C
  have H_this_totals := O
  have H_this_owners := W
  have H_this_st : h1 68 = _ := (hfr1 68 (by omega) (by omega)).trans H_this_st
  have f1 : be1 k = ((lt_B (txq T)).getD k 0 : Int) := by rw [G3 k hc]; simp [hc]
  have f2 : be1 (k + 1) = (rv_e (lt_B (txq T)) T.1.length k : Int) := by
    unfold rv_e
    by_cases y : k + 1 < (lt_B (txq T)).length
    · rw [if_pos y, G3 _ y]; simp [y]
    · rw [if_neg y, show k + 1 = (lt_B (txq T)).length by omega, G3b]
  refine V_iload_n eX10_line_4 rfl rfl ?_
  refine V_i2lI eX10_line_5 (by omega) ?_
  refine V_lconst (b := 0) eX10_line_6 (by decide) ?_
  refine V_aload_n eX10_line_7 rfl rfl ?_
  refine V_getf eX10_line_8 H_this rfl ?_
  show eb_V _ _ 11 _ [.int (eb_I ((lt_B (txq T)).length : Int)), _, _] _ _ _
  refine V_iconst eX10_line_11 ?_
  refine V_isub eX10_line_12 ?_
  refine V_i2lI eX10_line_13 (by omega) ?_
  refine V_csi eX10_line_14 (c_X10_in (by omega)) rfl rfl (Nat.le_of_ble_eq_true rfl) ⟨rfl, rfl⟩ ⟨Nat.zero_le _, Nat.zero_le _⟩ ?_
  rw [if_pos (by omega)]
  refine V_if_ne (tgt := 23) eX10_line_17 rfl (by omega) (fun c_17 => ?_) (fun c_17 => ?_)
  · refine V_iload_n eX10_line_23 rfl rfl ?_
    refine V_tswIn (tgt := 72) (off := 48) eX10_line_24 (by omega) (by omega) rfl rfl ?_
    refine V_aload_n eX10_line_72 rfl rfl ?_
    refine V_aload_n eX10_line_73 rfl rfl ?_
    refine V_getf eX10_line_74 H_this rfl ?_
    refine V_iload_n eX10_line_77 rfl rfl ?_
    refine V_iald eX10_line_78 H_this_begins (by omega) ?_
    rw [Int.toNat_natCast, f1]
    refine V_aload_n eX10_line_79 rfl rfl ?_
    refine V_getf eX10_line_80 H_this rfl ?_
    refine V_iload_n eX10_line_83 rfl rfl ?_
    refine V_iconst eX10_line_84 ?_
    refine V_iadd eX10_line_85 ?_
    refine V_iald eX10_line_86 H_this_begins (by omega) ?_
    rw [n1, f2]
    refine V_cvi eX10_line_87 (c_X10_lineWidth (n := n) H_this U (by omega) (by omega)) H_this rfl rfl (Nat.le_of_ble_eq_true rfl) ⟨rfl, rfl⟩ ⟨Nat.zero_le _, Nat.zero_le _⟩ ?_
    rw [show up (rv_e (lt_B (txq T)) T.1.length k) = lt_pl (tx_wf T.1) (rv_e (lt_B (txq T)) T.1.length k) from q1 _ (by show _ ≤ T.1.length; omega), show up ((lt_B (txq T)).getD k 0) = lt_pl (tx_wf T.1) ((lt_B (txq T)).getD k 0) from q1 _ (by show _ ≤ T.1.length; omega)]
    exact V_iret eX10_line_90 ⟨Nat.zero_le _, Nat.zero_le _⟩ rfl (rfl) (⟨rfl, rfl, HR.lines HL1 hfr1⟩)
  · exact absurd c_17 (by decide)
theorem x10_line_3 {k : Nat} (HR : MR h T ty fa past seed i0 i1 sees book) (HO : SOK T ty fa past seed i0 i1 sees book) (hc : k < (lt_B (txq T)).length) : eb_T mX10_line [.ref 67, .int (eb_I (k : Int)), .int (eb_I 3)] n h (eb_G (some (.int (eb_I (lt_c (txq T) ((lt_B (txq T)).getD k 0) (rv_e (lt_B (txq T)) T.1.length k))))) n (fun h' => MR h' T ty fa past seed i0 i1 sees book ∧ L67 h h')) := by
  obtain ⟨cc, HR⟩ := HR
  obtain ⟨H_this, K, ⟨sf, H_this_st, hm⟩, ⟨pf, H_this_past, hp⟩, ⟨tf, H_this_typed, htf⟩, ⟨⟨ns, H_this_newSizes⟩, nl, H_this_newLetters⟩, ⟨⟨wd, H_this_wide⟩, HM, ⟨be, H_this_begins⟩, wi, H_this_with⟩, ⟨se, H_this_seen, hse⟩, ⟨bo, H_this_book, hbo⟩, ⟨⟨bb, H_this_beginsBy⟩, ib, H_this_isBy⟩, imf, kp, H_this_images, H_this_isKept, hi0, hi1⟩ := id HR
  obtain ⟨k2, k3, k5, k6, k19, k21⟩ := K
  obtain ⟨HT, hty, hfa, hpo, hsd, hg0, hg1, hsu, hbk⟩ := id HO
  have hN : T.1.length ≤ 40 := HT.1.1
  have e0 : sf (0 : Int).toNat = (T.1.length : Int) := hm.1
  refine eb_T.of (by decide +kernel) (Nat.le_of_ble_eq_true rfl) ?_
  show eb_V _ _ 0 [.ref 67, .int (eb_I (k : Int)), .int (eb_I 3)] [] (n, 0, 0) h _
  have TL := c_X10_layLines (n := n) H_this H_this_st hm HT H_this_wide HM H_this_begins
  obtain ⟨u1, u2⟩ := lt_B_up (tx_lok HT)
  have u1' : ∀ x ∈ lt_B (txq T), x < T.1.length := u1
  have hlB : (lt_B (txq T)).length ≤ 40 := Nat.le_trans (br_len u1' u2) hN
  have hB := B_at u1' u2 hc
  have n1 : ((k : Int) + 1).toNat = k + 1 := by omega
  have n2 : ((41 : Int) * ((lt_B (txq T)).getD k 0 : Int) + (rv_e (lt_B (txq T)) T.1.length k : Int)).toNat = 41 * (lt_B (txq T)).getD k 0 + rv_e (lt_B (txq T)) T.1.length k := by omega
  refine V_aload_n eX10_line_0 rfl rfl ?_
  refine V_cvg eX10_line_1 (TL) H_this rfl rfl (Nat.le_of_ble_eq_true rfl) ⟨rfl, rfl⟩ ⟨Nat.zero_le _, Nat.zero_le _⟩ (fun h1 ⟨HL1, hfr1⟩ => ?_)
  show eb_V _ _ 4 _ [] _ _ _
  obtain ⟨⟨G1, be1, G2, G3, G3b⟩, ⟨up, co, to, ow, U, C, O, W, q1, q2, q3, q4⟩, G4⟩ := id HL1
  have H_this := G1
  have H_this_begins := G2
  have H_this_upTo := U
  have H_this_costs := C
  have H_this_totals := O
  have H_this_owners := W
  have H_this_st : h1 68 = _ := (hfr1 68 (by omega) (by omega)).trans H_this_st
  have f1 : be1 k = ((lt_B (txq T)).getD k 0 : Int) := by rw [G3 k hc]; simp [hc]
  have f2 : be1 (k + 1) = (rv_e (lt_B (txq T)) T.1.length k : Int) := by
    unfold rv_e
    by_cases y : k + 1 < (lt_B (txq T)).length
    · rw [if_pos y, G3 _ y]; simp [y]
    · rw [if_neg y, show k + 1 = (lt_B (txq T)).length by omega, G3b]
  refine V_iload_n eX10_line_4 rfl rfl ?_
  refine V_i2lI eX10_line_5 (by omega) ?_
  refine V_lconst (b := 0) eX10_line_6 (by decide) ?_
  refine V_aload_n eX10_line_7 rfl rfl ?_
  refine V_getf eX10_line_8 H_this rfl ?_
  show eb_V _ _ 11 _ [.int (eb_I ((lt_B (txq T)).length : Int)), _, _] _ _ _
  refine V_iconst eX10_line_11 ?_
  refine V_isub eX10_line_12 ?_
  refine V_i2lI eX10_line_13 (by omega) ?_
  refine V_csi eX10_line_14 (c_X10_in (by omega)) rfl rfl (Nat.le_of_ble_eq_true rfl) ⟨rfl, rfl⟩ ⟨Nat.zero_le _, Nat.zero_le _⟩ ?_
  rw [if_pos (by omega)]
  refine V_if_ne (tgt := 23) eX10_line_17 rfl (by omega) (fun c_17 => ?_) (fun c_17 => ?_)
  · refine V_iload_n eX10_line_23 rfl rfl ?_
    refine V_tswIn (tgt := 91) (off := 67) eX10_line_24 (by omega) (by omega) rfl rfl ?_
    refine V_aload_n eX10_line_91 rfl rfl ?_
    refine V_getf eX10_line_92 H_this rfl ?_
    refine V_bipush eX10_line_95 (by decide) ?_
    refine V_aload_n eX10_line_97 rfl rfl ?_
    refine V_getf eX10_line_98 H_this rfl ?_
    refine V_iload_n eX10_line_101 rfl rfl ?_
    refine V_iald eX10_line_102 H_this_begins (by omega) ?_
    rw [Int.toNat_natCast, f1]
    refine V_imul eX10_line_103 ?_
    refine V_aload_n eX10_line_104 rfl rfl ?_
    refine V_getf eX10_line_105 H_this rfl ?_
    refine V_iload_n eX10_line_108 rfl rfl ?_
    refine V_iconst eX10_line_109 ?_
    refine V_iadd eX10_line_110 ?_
    refine V_iald eX10_line_111 H_this_begins (by omega) ?_
    rw [n1, f2]
    refine V_iadd eX10_line_112 ?_
    refine V_iald eX10_line_113 H_this_costs (by omega) ?_
    rw [n2, q2 _ _ hB.2.1 hB.2.2]
    exact V_iret eX10_line_114 ⟨Nat.zero_le _, Nat.zero_le _⟩ rfl (rfl) (⟨rfl, rfl, HR.lines HL1 hfr1⟩)
  · exact absurd c_17 (by decide)
theorem x10_line_out {k : Nat} {w : Int} (HR : MR h T ty fa past seed i0 i1 sees book) (HO : SOK T ty fa past seed i0 i1 sees book) (hc : k < (lt_B (txq T)).length) (hw : -2147483648 ≤ w ∧ w ≤ 2147483647) (hw2 : ¬ (0 ≤ w ∧ w ≤ 3)) : eb_T mX10_line [.ref 67, .int (eb_I (k : Int)), .int (eb_I w)] n h (eb_G (some (.int (eb_I (-1000000002)))) n (fun h' => MR h' T ty fa past seed i0 i1 sees book ∧ L67 h h')) := by
  obtain ⟨cc, HR⟩ := HR
  obtain ⟨H_this, K, ⟨sf, H_this_st, hm⟩, ⟨pf, H_this_past, hp⟩, ⟨tf, H_this_typed, htf⟩, ⟨⟨ns, H_this_newSizes⟩, nl, H_this_newLetters⟩, ⟨⟨wd, H_this_wide⟩, HM, ⟨be, H_this_begins⟩, wi, H_this_with⟩, ⟨se, H_this_seen, hse⟩, ⟨bo, H_this_book, hbo⟩, ⟨⟨bb, H_this_beginsBy⟩, ib, H_this_isBy⟩, imf, kp, H_this_images, H_this_isKept, hi0, hi1⟩ := id HR
  obtain ⟨k2, k3, k5, k6, k19, k21⟩ := K
  obtain ⟨HT, hty, hfa, hpo, hsd, hg0, hg1, hsu, hbk⟩ := id HO
  have hN : T.1.length ≤ 40 := HT.1.1
  have e0 : sf (0 : Int).toNat = (T.1.length : Int) := hm.1
  refine eb_T.of (by decide +kernel) (Nat.le_of_ble_eq_true rfl) ?_
  show eb_V _ _ 0 [.ref 67, .int (eb_I (k : Int)), .int (eb_I w)] [] (n, 0, 0) h _
  have TL := c_X10_layLines (n := n) H_this H_this_st hm HT H_this_wide HM H_this_begins
  obtain ⟨u1, u2⟩ := lt_B_up (tx_lok HT)
  have u1' : ∀ x ∈ lt_B (txq T), x < T.1.length := u1
  have hlB : (lt_B (txq T)).length ≤ 40 := Nat.le_trans (br_len u1' u2) hN
  refine V_aload_n eX10_line_0 rfl rfl ?_
  refine V_cvg eX10_line_1 (TL) H_this rfl rfl (Nat.le_of_ble_eq_true rfl) ⟨rfl, rfl⟩ ⟨Nat.zero_le _, Nat.zero_le _⟩ (fun h1 ⟨HL1, hfr1⟩ => ?_)
  show eb_V _ _ 4 _ [] _ _ _
  obtain ⟨⟨G1, be1, G2, G3, G3b⟩, ⟨up, co, to, ow, U, C, O, W, q1, q2, q3, q4⟩, G4⟩ := id HL1
  have H_this := G1
  have H_this_begins := G2
  have H_this_upTo := U
  have H_this_costs := C
  have H_this_totals := O
  have H_this_owners := W
  have H_this_st : h1 68 = _ := (hfr1 68 (by omega) (by omega)).trans H_this_st
  refine V_iload_n eX10_line_4 rfl rfl ?_
  refine V_i2lI eX10_line_5 (by omega) ?_
  refine V_lconst (b := 0) eX10_line_6 (by decide) ?_
  refine V_aload_n eX10_line_7 rfl rfl ?_
  refine V_getf eX10_line_8 H_this rfl ?_
  show eb_V _ _ 11 _ [.int (eb_I ((lt_B (txq T)).length : Int)), _, _] _ _ _
  refine V_iconst eX10_line_11 ?_
  refine V_isub eX10_line_12 ?_
  refine V_i2lI eX10_line_13 (by omega) ?_
  refine V_csi eX10_line_14 (c_X10_in (by omega)) rfl rfl (Nat.le_of_ble_eq_true rfl) ⟨rfl, rfl⟩ ⟨Nat.zero_le _, Nat.zero_le _⟩ ?_
  rw [if_pos (by omega)]
  refine V_if_ne (tgt := 23) eX10_line_17 rfl (by omega) (fun c_17 => ?_) (fun c_17 => ?_)
  · refine V_iload_n eX10_line_23 rfl rfl ?_
    refine V_tswOut (tgt := 115) eX10_line_24 (by omega) (by omega) rfl ?_
    refine V_ldc (a := -1000000002) eX10_line_115 wd_801 (by decide) ?_
    exact V_iret eX10_line_117 ⟨Nat.zero_le _, Nat.zero_le _⟩ rfl (rfl) (⟨rfl, rfl, HR.lines HL1 hfr1⟩)
  · exact absurd c_17 (by decide)
end M12
