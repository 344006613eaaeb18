section M14
variable {n : Nat} {h : eb_H} {T : TX} {ty : List Nat} {fa : Int} {past : List TX} {seed : Int} {i0 i1 : Option (TX × Int)} {sees : List (Nat × Bool)} {book : List (Int × Int)}
theorem x10_drift_out {v : Int} (HR : MR h T ty fa past seed i0 i1 sees book) (HO : SOK T ty fa past seed i0 i1 sees book) (hv : -2147483648 ≤ v ∧ v ≤ 2147483647) (hc : ¬ (1 ≤ v ∧ v ≤ 16)) : eb_T mX10_drift [.ref 67, .int (eb_I v)] n h (eb_G (some (.int (eb_I (-1000000002)))) n (fun h' => MR h' T ty fa past seed i0 i1 sees book ∧ L67 h h')) := by
  obtain ⟨cc, HR⟩ := HR
  obtain ⟨H_this, K, ⟨sf, H_this_st, hm⟩, ⟨pf, H_this_past, hp⟩, ⟨tf, H_this_typed, htf⟩, ⟨⟨ns, H_this_newSizes⟩, nl, H_this_newLetters⟩, ⟨⟨wd, H_this_wide⟩, HM, ⟨be, H_this_begins⟩, wi, H_this_with⟩, ⟨se, H_this_seen, hse⟩, ⟨bo, H_this_book, hbo⟩, ⟨⟨bb, H_this_beginsBy⟩, ib, H_this_isBy⟩, imf, kp, H_this_images, H_this_isKept, hi0, hi1⟩ := id HR
  obtain ⟨b1, b2, b3, b4, b5, b6, b7, b8, b9, b10, b11⟩ := id HR
  obtain ⟨k2, k3, k5, k6, k19, k21⟩ := K
  obtain ⟨HT, hty, hfa, hpo, hsd, hg0, hg1, hsu, hbk⟩ := id HO
  have hN : T.1.length ≤ 40 := HT.1.1
  obtain ⟨m0, m1, m2, m3, m4, m5⟩ := id hm
  have e0 : sf (0 : Int).toNat = (T.1.length : Int) := hm.1
  refine eb_T.of (by decide +kernel) (Nat.le_of_ble_eq_true rfl) ?_
  show eb_V _ _ 0 [.ref 67, .int (eb_I v), eb_no, eb_no] [] (n, 0, 0) h _
  refine V_iload_n eX10_drift_0 rfl rfl ?_
  refine V_i2lI eX10_drift_1 (by omega) ?_
  refine V_lconst (b := 1) eX10_drift_2 (by decide) ?_
  refine V_ldc2 (a := 16) eX10_drift_3 wd_975 (by decide) ?_
  refine V_csi eX10_drift_6 (c_X10_in (by omega)) rfl rfl (Nat.le_of_ble_eq_true rfl) ⟨rfl, rfl⟩ ⟨Nat.zero_le _, Nat.zero_le _⟩ ?_
  rw [if_neg hc]
  refine V_if_ne (tgt := 15) eX10_drift_9 rfl (by omega) (fun c_9 => ?_) (fun c_9 => ?_)
  · exact absurd rfl c_9
  · refine V_ldc (a := -1000000002) eX10_drift_12 wd_801 (by decide) ?_
    exact V_iret eX10_drift_14 ⟨Nat.zero_le _, Nat.zero_le _⟩ rfl (rfl) (⟨rfl, rfl, ⟨cc, HR⟩, fun _ _ => rfl⟩)
theorem drift_body {m i : Nat} {h0 : eb_H} {Q : Nat → List Value → List Value → eb_Z → eb_H → Prop} {x3 : Value} (HR : MR h T ty fa past seed i0 i1 sees book) (HT : TX_ok T) (hpo : past.length ≤ 16 ∧ ∀ T ∈ past, TX_ok T) (hsd : 0 ≤ seed ∧ seed ≤ 2147483647) (hL : L67 h0 h) (kk : ∀ (h2 : eb_H) (x3 : Value), MR h2 (dr_1 T seed).1 ty fa ((T :: past).take 16) (dr_1 T seed).2 i0 i1 sees book → L67 h0 h2 → eb_V mX10_drift (fun _ _ _ => True) 108 [.ref 67, .int (eb_I (m : Int)), .int (eb_I (i : Int)), x3] [] (n, 0, 0) h2 Q) : eb_V mX10_drift (fun _ _ _ => True) 22 [.ref 67, .int (eb_I (m : Int)), .int (eb_I (i : Int)), x3] [] (n, 0, 0) h Q := by
  obtain ⟨cc, HR⟩ := HR
  obtain ⟨H_this, K, ⟨sf, H_this_st, hm⟩, ⟨pf, H_this_past, hp⟩, ⟨tf, H_this_typed, htf⟩, ⟨⟨ns, H_this_newSizes⟩, nl, H_this_newLetters⟩, ⟨⟨wd, H_this_wide⟩, HM, ⟨be, H_this_begins⟩, wi, H_this_with⟩, ⟨se, H_this_seen, hse⟩, ⟨bo, H_this_book, hbo⟩, ⟨⟨bb, H_this_beginsBy⟩, ib, H_this_isBy⟩, imf, kp, H_this_images, H_this_isKept, hi0, hi1⟩ := id HR
  obtain ⟨b1, b2, b3, b4, b5, b6, b7, b8, b9, b10, b11⟩ := id HR
  obtain ⟨k2, k3, k5, k6, k19, k21⟩ := K
  have hN : T.1.length ≤ 40 := HT.1.1
  obtain ⟨m0, m1, m2, m3, m4, m5⟩ := id hm
  have e0 : sf (0 : Int).toNat = (T.1.length : Int) := hm.1
  have TN := c_X10_note (n := n) H_this H_this_st hm HT H_this_past k2 hp hpo
  have hw0 := dr_W_ok seed
  have r0 := dr_v_r (s := dr_s seed) (m := 12) (by omega)
  have rs := dr_s_r seed
  obtain ⟨L, hLd⟩ : ∃ L : Nat, L = (dr_v (dr_s seed) 12).toNat + 1 := ⟨_, rfl⟩
  have eW : dr_W seed = dr_L (dr_s seed) L := by rw [hLd]; rfl
  have loop : ∀ (h2 : eb_H) (c2 pf2 ns3 : Nat → Int), mK c2 ty fa ((T :: past).take 16) seed sees book → h2 69 = eb_ia 8400 pf2 → mp pf2 ((T :: past).take 16) → (∀ k, k ≠ 67 → k ≠ 69 → h2 k = h k) → ns3 0 = (L : Int) → ∀ (d k : Nat) (h3 : eb_H) (nl3 : Nat → Int), k + d = L → h3 67 = mo (eb_set c2 3 (dr_L (dr_s seed) k).2) → h3 71 = eb_ia 40 ns3 → h3 72 = eb_ia 480 nl3 → (∀ j (hj : j < (dr_L (dr_s seed) k).1.length), nl3 j = ((dr_L (dr_s seed) k).1[j] : Int)) → (∀ j, j ≠ 67 → j ≠ 71 → j ≠ 72 → h3 j = h2 j) → eb_V mX10_drift (fun _ _ _ => True) 42 [.ref 67, .int (eb_I (m : Int)), .int (eb_I (i : Int)), .int (eb_I (k : Int))] [] (n, 0, 0) h3 Q := by
    intro h2 c2 pf2 ns3 A1 A2 A3 A4 A5 d
    obtain ⟨g2, g3, g5, g6, g19, g21⟩ := A1
    induction d with
    | zero =>
      intro k h3 nl3 hk B1 B2 B3 B4 B5
      have : k = L := by omega
      subst this
      rw [← eW] at B1 B4
      have hl12 := hw0.1.2
      have hlen : (dr_W seed).1.length = k := by rw [eW]; exact (dr_L_ok _ rs k).2.1
      have hnw : nw ns3 nl3 0 (dr_W seed).1 := ⟨by rw [A5, hlen], fun j hj => by rw [show 12 * 0 + j = j by omega]; exact B4 j hj⟩
      have H_this := B1
      have H_this_newSizes := B2
      have S3 : h3 68 = eb_ia 525 sf := (B5 68 (by omega) (by omega) (by omega)).trans ((A4 68 (by omega) (by omega)).trans H_this_st)
      have H_this_st := S3
      have e3 : ns3 (0 : Int).toNat = (k : Int) := A5
      have fin : ∀ (h4 : eb_H) (c4 f4 : Nat → Int) (T4 : TX) (s4 : Int), h4 67 = mo c4 → mK c4 ty fa ((T :: past).take 16) s4 sees book → h4 68 = eb_ia 525 f4 → ms f4 T4 → (∀ j, j ≠ 67 → j ≠ 68 → h4 j = h3 j) → MR h4 T4 ty fa ((T :: past).take 16) s4 i0 i1 sees book ∧ L67 h0 h4 := by
        intro h4 c4 f4 T4 s4 C1 C2 C3 C4 C5
        have fr : ∀ j, j ≠ 67 → j ≠ 68 → j ≠ 69 → j ≠ 71 → j ≠ 72 → h4 j = h j := fun j z1 z2 z3 z4 z5 => (C5 j z1 z2).trans ((B5 j z1 z4 z5).trans (A4 j z1 z3))
        have D := HR.deed C1 C2 ⟨f4, C3, C4⟩ ⟨pf2, (C5 69 (by omega) (by omega)).trans ((B5 69 (by omega) (by omega) (by omega)).trans A2), A3⟩ (b5.kept (fr 70 (by omega) (by omega) (by omega) (by omega) (by omega))) ⟨⟨ns3, (C5 71 (by omega) (by omega)).trans B2⟩, nl3, (C5 72 (by omega) (by omega)).trans B3⟩ (b7.kept (fun k x y => fr k (by omega) (by omega) (by omega) (by omega) (by omega))) (fun k z => fr k (by omega) (by omega) (by omega) (by omega) (by omega))
        exact ⟨D.1, fun j z => (D.2 j z).trans (hL j z)⟩
      by_cases y : T.1.length < 40
      · have e1 : dr_1 T seed = ((T.1 ++ [(dr_W seed).1], T.2), (dr_W seed).2) := by unfold dr_1; rw [if_pos y]
        rw [e1] at kk
        have TP := c_X10_putIn (n := n) (w := T.1.length) H_this H_this_st hm HT B2 B3 (Nat.le_refl _) y hl12 hnw
        rw [List.take_length, List.drop_length] at TP
        refine V_iload_n eX10_drift_42 rfl rfl ?_
        refine V_aload_n eX10_drift_43 rfl rfl ?_
        refine V_getf eX10_drift_44 H_this rfl ?_
        refine V_iconst eX10_drift_47 ?_
        refine V_iald eX10_drift_48 H_this_newSizes (by omega) ?_
        rw [e3]
        refine V_icmp_ge (tgt := 73) eX10_drift_49 rfl (by omega) (fun c_49 => ?_) (fun c_49 => ?_)
        · refine V_aload_n eX10_drift_73 rfl rfl ?_
          refine V_getf eX10_drift_74 H_this rfl ?_
          refine V_iconst eX10_drift_77 ?_
          refine V_iald eX10_drift_78 H_this_st (by omega) ?_
          rw [e0]
          refine V_bipush eX10_drift_79 (by decide) ?_
          refine V_icmp_ge (tgt := 97) eX10_drift_81 rfl (by omega) (fun c_81 => ?_) (fun c_81 => ?_)
          · exact absurd c_81 (by omega)
          · refine V_aload_n eX10_drift_84 rfl rfl ?_
            refine V_aload_n eX10_drift_85 rfl rfl ?_
            refine V_getf eX10_drift_86 H_this rfl ?_
            refine V_iconst eX10_drift_89 ?_
            refine V_iald eX10_drift_90 H_this_st (by omega) ?_
            rw [e0]
            refine V_cvg eX10_drift_91 (TP) H_this rfl rfl (Nat.le_of_ble_eq_true rfl) ⟨rfl, rfl⟩ ⟨Nat.zero_le _, Nat.zero_le _⟩ (fun h4 ⟨⟨f4, C1, C2⟩, C3⟩ => ?_)
            show eb_V _ _ 94 _ [] _ _ _
            have FF := fin h4 _ f4 _ (dr_W seed).2 ((C3 67 (by omega)).trans H_this) ⟨g2, rfl, g5, g6, g19, g21⟩ C1 C2 (fun j z1 z2 => C3 j z2)
            refine V_goto (tgt := 108) eX10_drift_94 rfl ?_
            exact kk _ _ FF.1 FF.2
        · exact absurd (by omega) c_49
      · have e1 : dr_1 T seed = ((T.1.set (dr_v (dr_s (dr_W seed).2) 40).toNat (dr_W seed).1, T.2), dr_s (dr_W seed).2) := by unfold dr_1; rw [if_neg y]
        rw [e1] at kk
        have r40 := dr_v_r (s := dr_s (dr_W seed).2) (m := 40) (by omega)
        have TD := c_X10_drawOf (n := n) (m := 40) (s := (dr_W seed).2) H_this rfl hw0.2.2 (by omega)
        obtain ⟨w, hw⟩ : ∃ w : Nat, w = (dr_v (dr_s (dr_W seed).2) 40).toNat := ⟨_, rfl⟩
        rw [← hw] at kk
        have TT := c_X10_takeWord (n := n) (w := w) (i := 0) (h := eb_up h3 67 (mo (eb_set (eb_set c2 3 (dr_W seed).2) 3 (dr_s (dr_W seed).2)))) (c := eb_set (eb_set c2 3 (dr_W seed).2) 3 (dr_s (dr_W seed).2)) eb_up_s (eb_up_n (by omega) H_this_st) (eb_up_n (by omega) B2) (eb_up_n (by omega) B3) (by omega) (by omega) hl12 hnw
        refine V_iload_n eX10_drift_42 rfl rfl ?_
        refine V_aload_n eX10_drift_43 rfl rfl ?_
        refine V_getf eX10_drift_44 H_this rfl ?_
        refine V_iconst eX10_drift_47 ?_
        refine V_iald eX10_drift_48 H_this_newSizes (by omega) ?_
        rw [e3]
        refine V_icmp_ge (tgt := 73) eX10_drift_49 rfl (by omega) (fun c_49 => ?_) (fun c_49 => ?_)
        · refine V_aload_n eX10_drift_73 rfl rfl ?_
          refine V_getf eX10_drift_74 H_this rfl ?_
          refine V_iconst eX10_drift_77 ?_
          refine V_iald eX10_drift_78 H_this_st (by omega) ?_
          rw [e0]
          refine V_bipush eX10_drift_79 (by decide) ?_
          refine V_icmp_ge (tgt := 97) eX10_drift_81 rfl (by omega) (fun c_81 => ?_) (fun c_81 => ?_)
          · refine V_aload_n eX10_drift_97 rfl rfl ?_
            refine V_aload_n eX10_drift_98 rfl rfl ?_
            refine V_bipush eX10_drift_99 (by decide) ?_
            refine V_cvi eX10_drift_101 (TD) H_this rfl rfl (Nat.le_of_ble_eq_true rfl) ⟨rfl, rfl⟩ ⟨Nat.zero_le _, Nat.zero_le _⟩ ?_
            refine V_eqI (b := (w : Int)) (by omega) ?_
            refine V_iconst eX10_drift_104 ?_
            refine V_cvg eX10_drift_105 (TT) eb_up_s rfl rfl (Nat.le_of_ble_eq_true rfl) ⟨rfl, rfl⟩ ⟨Nat.zero_le _, Nat.zero_le _⟩ (fun h4 ⟨⟨f4, C1, C2, C3⟩, C4⟩ => ?_)
            show eb_V _ _ 108 _ [] _ _ _
            have FF := fin h4 (eb_set (eb_set c2 3 (dr_W seed).2) 3 (dr_s (dr_W seed).2)) f4 _ (dr_s (dr_W seed).2) ((C4 67 (by omega)).trans eb_up_s) ⟨g2, rfl, g5, g6, g19, g21⟩ C1 (ms_set hm HT C2 C3 (by omega)) (fun j z1 z2 => (C4 j z2).trans (eb_up_n z1 rfl))
            exact kk _ _ FF.1 FF.2
          · exact absurd c_81 (by omega)
        · exact absurd (by omega) c_49
    | succ d ih =>
      intro k h3 nl3 hk B1 B2 B3 B4 B5
      have H_this := B1
      have H_this_newSizes := B2
      have H_this_newLetters := B3
      have e3 : ns3 (0 : Int).toNat = (L : Int) := A5
      obtain ⟨l1, l2, l3⟩ := dr_L_ok (dr_s seed) rs k
      have r26 := dr_v_r (s := dr_s (dr_L (dr_s seed) k).2) (m := 26) (by omega)
      have TD := c_X10_drawOf (n := n) (m := 26) (s := (dr_L (dr_s seed) k).2) H_this rfl l3 (by omega)
      have eL : dr_L (dr_s seed) (k + 1) = ((dr_L (dr_s seed) k).1 ++ [(97 + dr_v (dr_s (dr_L (dr_s seed) k).2) 26).toNat], dr_s (dr_L (dr_s seed) k).2) := rfl
      refine V_iload_n eX10_drift_42 rfl rfl ?_
      refine V_aload_n eX10_drift_43 rfl rfl ?_
      refine V_getf eX10_drift_44 H_this rfl ?_
      refine V_iconst eX10_drift_47 ?_
      refine V_iald eX10_drift_48 H_this_newSizes (by omega) ?_
      rw [e3]
      refine V_icmp_ge (tgt := 73) eX10_drift_49 rfl (by omega) (fun c_49 => ?_) (fun c_49 => ?_)
      · exact absurd c_49 (by omega)
      · refine V_aload_n eX10_drift_52 rfl rfl ?_
        refine V_getf eX10_drift_53 H_this rfl ?_
        refine V_iload_n eX10_drift_56 rfl rfl ?_
        refine V_bipush eX10_drift_57 (by decide) ?_
        refine V_aload_n eX10_drift_59 rfl rfl ?_
        refine V_bipush eX10_drift_60 (by decide) ?_
        refine V_cvi eX10_drift_62 (TD) H_this rfl rfl (Nat.le_of_ble_eq_true rfl) ⟨rfl, rfl⟩ ⟨Nat.zero_le _, Nat.zero_le _⟩ ?_
        refine V_iadd eX10_drift_65 ?_
        refine V_iast eX10_drift_66 (eb_up_n (by omega) B3) (by omega) ?_
        rw [Int.toNat_natCast]
        refine V_iinc eX10_drift_67 rfl rfl (eb_sS (eb_sS (eb_sS eb_s0))) ?_
        refine V_goto (tgt := 42) eX10_drift_70 rfl ?_
        exact ih (k + 1) _ _ (by omega) (eb_up_n (by omega) eb_up_s) (eb_up_n (by omega) (eb_up_n (by omega) B2)) eb_up_s (fun j hj => by
          simp only [eL] at hj ⊢
          unfold eb_set
          by_cases y : j < (dr_L (dr_s seed) k).1.length
          · rw [if_neg (by omega), List.getElem_append_left y]
            exact B4 j y
          · have : j = (dr_L (dr_s seed) k).1.length := by simp at hj; omega
            subst this
            rw [if_pos (by omega)]
            simp
            omega) (fun j z1 z2 z3 => eb_up_n z3 (eb_up_n z1 (B5 j z1 z2 z3)))
  have TD : ∀ (h2 : eb_H) (c2 : Nat → Int), h2 67 = mo c2 → c2 3 = seed → _ := fun h2 c2 a b => c_X10_drawOf (n := n) (m := 12) (s := seed) (h := h2) (c := c2) a b hsd (by omega)
  refine V_aload_n eX10_drift_22 rfl rfl ?_
  refine V_cvg eX10_drift_23 (TN) H_this rfl rfl (Nat.le_of_ble_eq_true rfl) ⟨rfl, rfl⟩ ⟨Nat.zero_le _, Nat.zero_le _⟩ (fun h2 ⟨⟨F1, pf2, F2, F3⟩, F4⟩ => ?_)
  show eb_V _ _ 26 _ [] _ _ _
  have H_this := F1
  have H_this_newSizes : h2 71 = _ := (F4 71 (by omega) (by omega)).trans H_this_newSizes
  refine V_aload_n eX10_drift_26 rfl rfl ?_
  refine V_getf eX10_drift_27 H_this rfl ?_
  refine V_iconst eX10_drift_30 ?_
  refine V_aload_n eX10_drift_31 rfl rfl ?_
  refine V_bipush eX10_drift_32 (by decide) ?_
  refine V_cvi eX10_drift_34 (TD h2 _ H_this k3) H_this rfl rfl (Nat.le_of_ble_eq_true rfl) ⟨rfl, rfl⟩ ⟨Nat.zero_le _, Nat.zero_le _⟩ ?_
  refine V_iconst eX10_drift_37 ?_
  refine V_iadd eX10_drift_38 ?_
  refine V_eqI (b := (L : Int)) (by omega) ?_
  refine V_iast eX10_drift_39 (eb_up_n (by omega) H_this_newSizes) (by omega) ?_
  rw [show ((0 : Int)).toNat = 0 from rfl]
  refine V_iconst eX10_drift_40 ?_
  refine V_istore_n eX10_drift_41 rfl (Nat.le_of_ble_eq_true rfl) rfl (eb_sS (eb_sS (eb_sS eb_s0))) ?_
  exact loop h2 (eb_set cc 2 (((T :: past).take 16).length : Int)) pf2 (eb_set ns 0 (L : Int)) ⟨rfl, k3, k5, k6, k19, k21⟩ F2 F3 F4 rfl L 0 _ nl (by omega) (eb_up_n (by omega) eb_up_s) eb_up_s (eb_up_n (by omega) (eb_up_n (by omega) ((F4 72 (by omega) (by omega)).trans H_this_newLetters))) (fun j hj => absurd hj (by simp [dr_L])) (fun j z1 z2 z3 => eb_up_n z2 (eb_up_n z1 rfl))
theorem x10_drift_ok {m : Nat} (HR : MR h T ty fa past seed i0 i1 sees book) (HO : SOK T ty fa past seed i0 i1 sees book) (hm_ : 1 ≤ m ∧ m ≤ 16) : eb_T mX10_drift [.ref 67, .int (eb_I (m : Int))] n h (eb_G (some (.int (eb_I (((dr_N T past seed m).1.1.length : Int))))) n (fun h' => MR h' (dr_N T past seed m).1 ty fa (dr_N T past seed m).2.1 (dr_N T past seed m).2.2 i0 i1 sees book ∧ L67 h h')) := by
  obtain ⟨cc, HR⟩ := HR
  obtain ⟨H_this, K, ⟨sf, H_this_st, hm⟩, ⟨pf, H_this_past, hp⟩, ⟨tf, H_this_typed, htf⟩, ⟨⟨ns, H_this_newSizes⟩, nl, H_this_newLetters⟩, ⟨⟨wd, H_this_wide⟩, HM, ⟨be, H_this_begins⟩, wi, H_this_with⟩, ⟨se, H_this_seen, hse⟩, ⟨bo, H_this_book, hbo⟩, ⟨⟨bb, H_this_beginsBy⟩, ib, H_this_isBy⟩, imf, kp, H_this_images, H_this_isKept, hi0, hi1⟩ := id HR
  obtain ⟨b1, b2, b3, b4, b5, b6, b7, b8, b9, b10, b11⟩ := id HR
  obtain ⟨k2, k3, k5, k6, k19, k21⟩ := K
  obtain ⟨HT, hty, hfa, hpo, hsd, hg0, hg1, hsu, hbk⟩ := id HO
  have hN : T.1.length ≤ 40 := HT.1.1
  obtain ⟨m0, m1, m2, m3, m4, m5⟩ := id hm
  have e0 : sf (0 : Int).toNat = (T.1.length : Int) := hm.1
  refine eb_T.of (by decide +kernel) (Nat.le_of_ble_eq_true rfl) ?_
  show eb_V _ _ 0 [.ref 67, .int (eb_I (m : Int)), eb_no, eb_no] [] (n, 0, 0) h _
  have ok := fun k => dr_N_ok (s := seed) HT hpo hsd k
  have loop : ∀ (d k : Nat) (h1 : eb_H) (x3 : Value), k + d = m → MR h1 (dr_N T past seed k).1 ty fa (dr_N T past seed k).2.1 (dr_N T past seed k).2.2 i0 i1 sees book → L67 h h1 → eb_V mX10_drift (fun _ _ _ => True) 17 [.ref 67, .int (eb_I (m : Int)), .int (eb_I (k : Int)), x3] [] (n, 0, 0) h1 (eb_R mX10_drift (eb_G (some (.int (eb_I ((dr_N T past seed m).1.1.length : Int)))) n (fun h' => MR h' (dr_N T past seed m).1 ty fa (dr_N T past seed m).2.1 (dr_N T past seed m).2.2 i0 i1 sees book ∧ L67 h h'))) := by
    intro d
    induction d with
    | zero =>
      intro k h1 x3 hk A1 A2
      have : k = m := by omega
      subst this
      obtain ⟨c1, B1, B2, ⟨f, B3, B4⟩, B5⟩ := id A1
      have H_this := B1
      have H_this_st := B3
      have e3 : f (0 : Int).toNat = _ := B4.1
      refine V_iload_n eX10_drift_17 rfl rfl ?_
      refine V_iload_n eX10_drift_18 rfl rfl ?_
      refine V_icmp_ge (tgt := 114) eX10_drift_19 rfl (by omega) (fun c_19 => ?_) (fun c_19 => ?_)
      · refine V_aload_n eX10_drift_114 rfl rfl ?_
        refine V_getf eX10_drift_115 H_this rfl ?_
        refine V_iconst eX10_drift_118 ?_
        refine V_iald eX10_drift_119 H_this_st (by omega) ?_
        rw [e3]
        exact V_iret eX10_drift_120 ⟨Nat.zero_le _, Nat.zero_le _⟩ rfl (rfl) (⟨rfl, rfl, A1, A2⟩)
      · exact absurd (by omega) c_19
    | succ d ih =>
      intro k h1 x3 hk A1 A2
      obtain ⟨o1, o2, o3⟩ := ok k
      refine V_iload_n eX10_drift_17 rfl rfl ?_
      refine V_iload_n eX10_drift_18 rfl rfl ?_
      refine V_icmp_ge (tgt := 114) eX10_drift_19 rfl (by omega) (fun c_19 => ?_) (fun c_19 => ?_)
      · exact absurd c_19 (by omega)
      · refine drift_body A1 o1 o2 o3 A2 (fun h2 x3 C1 C2 => ?_)
        exact V_iinc eX10_drift_108 rfl rfl (eb_sS (eb_sS eb_s0)) (V_goto (tgt := 17) eX10_drift_111 rfl (ih (k + 1) h2 x3 (by omega) C1 C2))
  refine V_iload_n eX10_drift_0 rfl rfl ?_
  refine V_i2lI eX10_drift_1 (by omega) ?_
  refine V_lconst (b := 1) eX10_drift_2 (by decide) ?_
  refine V_ldc2 (a := 16) eX10_drift_3 wd_975 (by decide) ?_
  refine V_csi eX10_drift_6 (c_X10_in (by omega)) rfl rfl (Nat.le_of_ble_eq_true rfl) ⟨rfl, rfl⟩ ⟨Nat.zero_le _, Nat.zero_le _⟩ ?_
  rw [if_pos (by omega)]
  refine V_if_ne (tgt := 15) eX10_drift_9 rfl (by omega) (fun c_9 => ?_) (fun c_9 => ?_)
  · refine V_iconst eX10_drift_15 ?_
    refine V_istore_n eX10_drift_16 rfl (Nat.le_of_ble_eq_true rfl) rfl (eb_sS (eb_sS eb_s0)) ?_
    exact loop m 0 h _ (by omega) ⟨cc, HR⟩ (fun _ _ => rfl)
  · exact absurd c_9 (by decide)
theorem x10_undo_out {v : Int} (HR : MR h T ty fa past seed i0 i1 sees book) (HO : SOK T ty fa past seed i0 i1 sees book) (hv : -2147483648 ≤ v ∧ v ≤ 2147483647) (hc : ¬ (1 ≤ v ∧ v ≤ 16)) : eb_T mX10_undo [.ref 67, .int (eb_I v)] n h (eb_G (some (.int (eb_I (-1000000002)))) n (fun h' => MR h' T ty fa past seed i0 i1 sees book ∧ L67 h h')) := by
  obtain ⟨cc, HR⟩ := HR
  obtain ⟨H_this, K, ⟨sf, H_this_st, hm⟩, ⟨pf, H_this_past, hp⟩, ⟨tf, H_this_typed, htf⟩, ⟨⟨ns, H_this_newSizes⟩, nl, H_this_newLetters⟩, ⟨⟨wd, H_this_wide⟩, HM, ⟨be, H_this_begins⟩, wi, H_this_with⟩, ⟨se, H_this_seen, hse⟩, ⟨bo, H_this_book, hbo⟩, ⟨⟨bb, H_this_beginsBy⟩, ib, H_this_isBy⟩, imf, kp, H_this_images, H_this_isKept, hi0, hi1⟩ := id HR
  obtain ⟨b1, b2, b3, b4, b5, b6, b7, b8, b9, b10, b11⟩ := id HR
  obtain ⟨k2, k3, k5, k6, k19, k21⟩ := K
  obtain ⟨HT, hty, hfa, hpo, hsd, hg0, hg1, hsu, hbk⟩ := id HO
  have hN : T.1.length ≤ 40 := HT.1.1
  obtain ⟨m0, m1, m2, m3, m4, m5⟩ := id hm
  have e0 : sf (0 : Int).toNat = (T.1.length : Int) := hm.1
  refine eb_T.of (by decide +kernel) (Nat.le_of_ble_eq_true rfl) ?_
  show eb_V _ _ 0 [.ref 67, .int (eb_I v), eb_no] [] (n, 0, 0) h _
  refine V_iload_n eX10_undo_0 rfl rfl ?_
  refine V_i2lI eX10_undo_1 (by omega) ?_
  refine V_lconst (b := 1) eX10_undo_2 (by decide) ?_
  refine V_ldc2 (a := 16) eX10_undo_3 wd_975 (by decide) ?_
  refine V_csi eX10_undo_6 (c_X10_in (by omega)) rfl rfl (Nat.le_of_ble_eq_true rfl) ⟨rfl, rfl⟩ ⟨Nat.zero_le _, Nat.zero_le _⟩ ?_
  rw [if_neg hc]
  refine V_if_ne (tgt := 15) eX10_undo_9 rfl (by omega) (fun c_9 => ?_) (fun c_9 => ?_)
  · exact absurd rfl c_9
  · refine V_ldc (a := -1000000002) eX10_undo_12 wd_801 (by decide) ?_
    exact V_iret eX10_undo_14 ⟨Nat.zero_le _, Nat.zero_le _⟩ rfl (rfl) (⟨rfl, rfl, ⟨cc, HR⟩, fun _ _ => rfl⟩)
theorem x10_undo_not {m : Nat} (HR : MR h T ty fa past seed i0 i1 sees book) (HO : SOK T ty fa past seed i0 i1 sees book) (hm_ : 1 ≤ m ∧ m ≤ 16) (hc : past.length < m) : eb_T mX10_undo [.ref 67, .int (eb_I (m : Int))] n h (eb_G (some (.int (eb_I (-1000000003)))) n (fun h' => MR h' T ty fa past seed i0 i1 sees book ∧ L67 h h')) := by
  obtain ⟨cc, HR⟩ := HR
  obtain ⟨H_this, K, ⟨sf, H_this_st, hm⟩, ⟨pf, H_this_past, hp⟩, ⟨tf, H_this_typed, htf⟩, ⟨⟨ns, H_this_newSizes⟩, nl, H_this_newLetters⟩, ⟨⟨wd, H_this_wide⟩, HM, ⟨be, H_this_begins⟩, wi, H_this_with⟩, ⟨se, H_this_seen, hse⟩, ⟨bo, H_this_book, hbo⟩, ⟨⟨bb, H_this_beginsBy⟩, ib, H_this_isBy⟩, imf, kp, H_this_images, H_this_isKept, hi0, hi1⟩ := id HR
  obtain ⟨b1, b2, b3, b4, b5, b6, b7, b8, b9, b10, b11⟩ := id HR
  obtain ⟨k2, k3, k5, k6, k19, k21⟩ := K
  obtain ⟨HT, hty, hfa, hpo, hsd, hg0, hg1, hsu, hbk⟩ := id HO
  have hN : T.1.length ≤ 40 := HT.1.1
  obtain ⟨m0, m1, m2, m3, m4, m5⟩ := id hm
  have e0 : sf (0 : Int).toNat = (T.1.length : Int) := hm.1
  refine eb_T.of (by decide +kernel) (Nat.le_of_ble_eq_true rfl) ?_
  show eb_V _ _ 0 [.ref 67, .int (eb_I (m : Int)), eb_no] [] (n, 0, 0) h _
  refine V_iload_n eX10_undo_0 rfl rfl ?_
  refine V_i2lI eX10_undo_1 (by omega) ?_
  refine V_lconst (b := 1) eX10_undo_2 (by decide) ?_
  refine V_ldc2 (a := 16) eX10_undo_3 wd_975 (by decide) ?_
  refine V_csi eX10_undo_6 (c_X10_in (by omega)) rfl rfl (Nat.le_of_ble_eq_true rfl) ⟨rfl, rfl⟩ ⟨Nat.zero_le _, Nat.zero_le _⟩ ?_
  rw [if_pos (by omega)]
  refine V_if_ne (tgt := 15) eX10_undo_9 rfl (by omega) (fun c_9 => ?_) (fun c_9 => ?_)
  · refine V_iload_n eX10_undo_15 rfl rfl ?_
    refine V_aload_n eX10_undo_16 rfl rfl ?_
    refine V_getf eX10_undo_17 H_this rfl ?_
    rw [k2]
    refine V_icmp_le (tgt := 26) eX10_undo_20 rfl (by omega) (fun c_20 => ?_) (fun c_20 => ?_)
    · exact absurd c_20 (by omega)
    · refine V_ldc (a := -1000000003) eX10_undo_23 wd_930 (by decide) ?_
      exact V_iret eX10_undo_25 ⟨Nat.zero_le _, Nat.zero_le _⟩ rfl (rfl) (⟨rfl, rfl, ⟨cc, HR⟩, fun _ _ => rfl⟩)
  · exact absurd c_9 (by decide)
theorem x10_undo_ok {m : Nat} (HR : MR h T ty fa past seed i0 i1 sees book) (HO : SOK T ty fa past seed i0 i1 sees book) (hm_ : 1 ≤ m ∧ m ≤ 16) (hc : m ≤ past.length) : eb_T mX10_undo [.ref 67, .int (eb_I (m : Int))] n h (eb_G (some (.int (eb_I (((past[m - 1]'(by omega)).1.length : Int))))) n (fun h' => MR h' (past[m - 1]'(by omega)) ty fa (past.drop m) seed i0 i1 sees book ∧ L67 h h')) := by
  obtain ⟨cc, HR⟩ := HR
  obtain ⟨H_this, K, ⟨sf, H_this_st, hm⟩, ⟨pf, H_this_past, hp⟩, ⟨tf, H_this_typed, htf⟩, ⟨⟨ns, H_this_newSizes⟩, nl, H_this_newLetters⟩, ⟨⟨wd, H_this_wide⟩, HM, ⟨be, H_this_begins⟩, wi, H_this_with⟩, ⟨se, H_this_seen, hse⟩, ⟨bo, H_this_book, hbo⟩, ⟨⟨bb, H_this_beginsBy⟩, ib, H_this_isBy⟩, imf, kp, H_this_images, H_this_isKept, hi0, hi1⟩ := id HR
  obtain ⟨b1, b2, b3, b4, b5, b6, b7, b8, b9, b10, b11⟩ := id HR
  obtain ⟨k2, k3, k5, k6, k19, k21⟩ := K
  obtain ⟨HT, hty, hfa, hpo, hsd, hg0, hg1, hsu, hbk⟩ := id HO
  have hN : T.1.length ≤ 40 := HT.1.1
  obtain ⟨m0, m1, m2, m3, m4, m5⟩ := id hm
  have e0 : sf (0 : Int).toNat = (T.1.length : Int) := hm.1
  refine eb_T.of (by decide +kernel) (Nat.le_of_ble_eq_true rfl) ?_
  show eb_V _ _ 0 [.ref 67, .int (eb_I (m : Int)), eb_no] [] (n, 0, 0) h _
  have hml : m - 1 < past.length := by omega
  have HT1 := hpo.2 _ (List.getElem_mem hml)
  have hms := hp (m - 1) hml
  obtain ⟨u, hu⟩ : ∃ u : Nat, u = past.length - m := ⟨_, rfl⟩
  have hul : (past.drop m).length = u := by rw [List.length_drop, hu]
  have hmp : mp pf (past.drop m) := fun i hi => by
    rw [hul] at hi ⊢
    have hi2 : m + i < past.length := by omega
    have e : (past.drop m)[i]'(by rw [hul]; exact hi) = past[m + i] := by simp
    rw [e]
    have := hp (m + i) hi2
    rw [show past.length - 1 - (m + i) = u - 1 - i by omega] at this
    exact this
  rw [show past.length - 1 - (m - 1) = u by omega] at hms
  have loop : ∀ (h2 : eb_H), h2 67 = mo (eb_set cc 2 (u : Int)) → (∀ k, k ≠ 67 → h2 k = h k) → ∀ (d k : Nat) (h3 : eb_H) (f : Nat → Int), k + d = 525 → h3 68 = eb_ia 525 f → (∀ j, j ≠ 68 → h3 j = h2 j) → (∀ j, j < k → f j = pf (525 * u + j)) → eb_V mX10_undo (fun _ _ _ => True) 38 [.ref 67, .int (eb_I (m : Int)), .int (eb_I (k : Int))] [] (n, 0, 0) h3 (eb_R mX10_undo (eb_G (some (.int (eb_I ((past[m - 1]'(by omega)).1.length : Int)))) n (fun h' => MR h' (past[m - 1]'(by omega)) ty fa (past.drop m) seed i0 i1 sees book ∧ L67 h h'))) := by
    intro h2 A1 A2 d
    induction d with
    | zero =>
      intro k h3 f hk B1 B2 B3
      have H_this : h3 67 = _ := (B2 67 (by omega)).trans A1
      have H_this_st := B1
      have hmf : ms f past[m - 1] := hms.cg HT1 (fun j hj => B3 j (by omega))
      have e3 : f (0 : Int).toNat = _ := hmf.1
      refine V_iload_n eX10_undo_38 rfl rfl ?_
      refine V_sipush eX10_undo_39 (by decide) ?_
      refine V_icmp_ge (tgt := 72) eX10_undo_42 rfl (by omega) (fun c_42 => ?_) (fun c_42 => ?_)
      · refine V_aload_n eX10_undo_72 rfl rfl ?_
        refine V_getf eX10_undo_73 H_this rfl ?_
        refine V_iconst eX10_undo_76 ?_
        refine V_iald eX10_undo_77 H_this_st (by omega) ?_
        rw [e3]
        exact V_iret eX10_undo_78 ⟨Nat.zero_le _, Nat.zero_le _⟩ rfl (rfl) (⟨rfl, rfl, HR.deed H_this ⟨by rw [hul]; rfl, k3, k5, k6, k19, k21⟩ ⟨f, B1, hmf⟩ ⟨pf, (B2 69 (by omega)).trans ((A2 69 (by omega)).trans H_this_past), hmp⟩ (b5.kept ((B2 70 (by omega)).trans (A2 70 (by omega)))) (b6.kept ((B2 71 (by omega)).trans (A2 71 (by omega))) ((B2 72 (by omega)).trans (A2 72 (by omega)))) (b7.kept (fun k x y => (B2 k (by omega)).trans (A2 k (by omega)))) (fun k z => (B2 k (by omega)).trans (A2 k (by omega)))⟩)
      · exact absurd (by omega) c_42
    | succ d ih =>
      intro k h3 f hk B1 B2 B3
      have H_this : h3 67 = _ := (B2 67 (by omega)).trans A1
      have H_this_st := B1
      have H_this_past : h3 69 = _ := (B2 69 (by omega)).trans ((A2 69 (by omega)).trans H_this_past)
      have n1 : ((525 : Int) * (u : Int) + (k : Int)).toNat = 525 * u + k := by omega
      refine V_iload_n eX10_undo_38 rfl rfl ?_
      refine V_sipush eX10_undo_39 (by decide) ?_
      refine V_icmp_ge (tgt := 72) eX10_undo_42 rfl (by omega) (fun c_42 => ?_) (fun c_42 => ?_)
      · exact absurd c_42 (by omega)
      · refine V_aload_n eX10_undo_45 rfl rfl ?_
        refine V_getf eX10_undo_46 H_this rfl ?_
        refine V_iload_n eX10_undo_49 rfl rfl ?_
        refine V_aload_n eX10_undo_50 rfl rfl ?_
        refine V_getf eX10_undo_51 H_this rfl ?_
        refine V_sipush eX10_undo_54 (by decide) ?_
        refine V_aload_n eX10_undo_57 rfl rfl ?_
        refine V_getf eX10_undo_58 H_this rfl ?_
        show eb_V _ _ 61 _ [.int (eb_I (u : Int)), _, _, _, _] _ _ _
        refine V_imul eX10_undo_61 ?_
        refine V_iload_n eX10_undo_62 rfl rfl ?_
        refine V_iadd eX10_undo_63 ?_
        refine V_iald eX10_undo_64 H_this_past (by omega) ?_
        rw [n1]
        refine V_iast eX10_undo_65 H_this_st (by omega) ?_
        rw [Int.toNat_natCast]
        refine V_iinc eX10_undo_66 rfl rfl (eb_sS (eb_sS eb_s0)) ?_
        refine V_goto (tgt := 38) eX10_undo_69 rfl ?_
        exact ih (k + 1) _ _ (by omega) eb_up_s (fun j z => eb_up_n z (B2 j z)) (fun j hj => by
          unfold eb_set
          by_cases y : j = k
          · rw [if_pos y, y]
          · rw [if_neg y]
            exact B3 j (by omega))
  refine V_iload_n eX10_undo_0 rfl rfl ?_
  refine V_i2lI eX10_undo_1 (by omega) ?_
  refine V_lconst (b := 1) eX10_undo_2 (by decide) ?_
  refine V_ldc2 (a := 16) eX10_undo_3 wd_975 (by decide) ?_
  refine V_csi eX10_undo_6 (c_X10_in (by omega)) rfl rfl (Nat.le_of_ble_eq_true rfl) ⟨rfl, rfl⟩ ⟨Nat.zero_le _, Nat.zero_le _⟩ ?_
  rw [if_pos (by omega)]
  refine V_if_ne (tgt := 15) eX10_undo_9 rfl (by omega) (fun c_9 => ?_) (fun c_9 => ?_)
  · refine V_iload_n eX10_undo_15 rfl rfl ?_
    refine V_aload_n eX10_undo_16 rfl rfl ?_
    refine V_getf eX10_undo_17 H_this rfl ?_
    rw [k2]
    refine V_icmp_le (tgt := 26) eX10_undo_20 rfl (by omega) (fun c_20 => ?_) (fun c_20 => ?_)
    · refine V_aload_n eX10_undo_26 rfl rfl ?_
      refine V_dup eX10_undo_27 rfl ?_
      refine V_getf eX10_undo_28 H_this rfl ?_
      rw [k2]
      refine V_iload_n eX10_undo_31 rfl rfl ?_
      refine V_isub eX10_undo_32 ?_
      refine V_eqI (b := (u : Int)) (by omega) ?_
      refine V_putf eX10_undo_33 H_this eb_fitI (eb_sS (eb_sS eb_s0)) (Nat.le_of_ble_eq_true rfl) ?_
      show eb_V _ _ 36 _ _ _ (eb_up _ 67 (mo (eb_set cc 2 (u : Int)))) _
      refine V_iconst eX10_undo_36 ?_
      refine V_istore_n eX10_undo_37 rfl (Nat.le_of_ble_eq_true rfl) rfl (eb_sS (eb_sS eb_s0)) ?_
      exact loop _ eb_up_s (fun k z => eb_up_n z rfl) 525 0 _ sf (by omega) (eb_up_n (by omega) H_this_st) (fun _ _ => rfl) (fun j hj => absurd hj (by omega))
    · exact absurd (by omega) c_20
  · exact absurd c_9 (by decide)
theorem x10_seed_out {v : Int} (HR : MR h T ty fa past seed i0 i1 sees book) (HO : SOK T ty fa past seed i0 i1 sees book) (hv : -2147483648 ≤ v ∧ v ≤ 2147483647) (hc : v < 0) : eb_T mX10_seed [.ref 67, .int (eb_I v)] n h (eb_G (some (.int (eb_I (-1000000002)))) n (fun h' => MR h' T ty fa past seed i0 i1 sees book ∧ L67 h h')) := by
  obtain ⟨cc, HR⟩ := HR
  obtain ⟨H_this, K, ⟨sf, H_this_st, hm⟩, ⟨pf, H_this_past, hp⟩, ⟨tf, H_this_typed, htf⟩, ⟨⟨ns, H_this_newSizes⟩, nl, H_this_newLetters⟩, ⟨⟨wd, H_this_wide⟩, HM, ⟨be, H_this_begins⟩, wi, H_this_with⟩, ⟨se, H_this_seen, hse⟩, ⟨bo, H_this_book, hbo⟩, ⟨⟨bb, H_this_beginsBy⟩, ib, H_this_isBy⟩, imf, kp, H_this_images, H_this_isKept, hi0, hi1⟩ := id HR
  obtain ⟨b1, b2, b3, b4, b5, b6, b7, b8, b9, b10, b11⟩ := id HR
  obtain ⟨k2, k3, k5, k6, k19, k21⟩ := K
  obtain ⟨HT, hty, hfa, hpo, hsd, hg0, hg1, hsu, hbk⟩ := id HO
  have hN : T.1.length ≤ 40 := HT.1.1
  obtain ⟨m0, m1, m2, m3, m4, m5⟩ := id hm
  have e0 : sf (0 : Int).toNat = (T.1.length : Int) := hm.1
  refine eb_T.of (by decide +kernel) (Nat.le_of_ble_eq_true rfl) ?_
  show eb_V _ _ 0 [.ref 67, .int (eb_I v), eb_no] [] (n, 0, 0) h _
  refine V_iload_n eX10_seed_0 rfl rfl ?_
  refine V_if_ge (tgt := 7) eX10_seed_1 rfl (by omega) (fun c_1 => ?_) (fun c_1 => ?_)
  · exact absurd c_1 (by omega)
  · refine V_ldc (a := -1000000002) eX10_seed_4 wd_801 (by decide) ?_
    exact V_iret eX10_seed_6 ⟨Nat.zero_le _, Nat.zero_le _⟩ rfl (rfl) (⟨rfl, rfl, ⟨cc, HR⟩, fun _ _ => rfl⟩)
theorem x10_seed_ok {v : Int} (HR : MR h T ty fa past seed i0 i1 sees book) (HO : SOK T ty fa past seed i0 i1 sees book) (hv : -2147483648 ≤ v ∧ v ≤ 2147483647) (hc : 0 ≤ v) : eb_T mX10_seed [.ref 67, .int (eb_I v)] n h (eb_G (some (.int (eb_I (seed)))) n (fun h' => MR h' T ty fa past v i0 i1 sees book ∧ L67 h h')) := by
  obtain ⟨cc, HR⟩ := HR
  obtain ⟨H_this, K, ⟨sf, H_this_st, hm⟩, ⟨pf, H_this_past, hp⟩, ⟨tf, H_this_typed, htf⟩, ⟨⟨ns, H_this_newSizes⟩, nl, H_this_newLetters⟩, ⟨⟨wd, H_this_wide⟩, HM, ⟨be, H_this_begins⟩, wi, H_this_with⟩, ⟨se, H_this_seen, hse⟩, ⟨bo, H_this_book, hbo⟩, ⟨⟨bb, H_this_beginsBy⟩, ib, H_this_isBy⟩, imf, kp, H_this_images, H_this_isKept, hi0, hi1⟩ := id HR
  obtain ⟨b1, b2, b3, b4, b5, b6, b7, b8, b9, b10, b11⟩ := id HR
  obtain ⟨k2, k3, k5, k6, k19, k21⟩ := K
  obtain ⟨HT, hty, hfa, hpo, hsd, hg0, hg1, hsu, hbk⟩ := id HO
  have hN : T.1.length ≤ 40 := HT.1.1
  obtain ⟨m0, m1, m2, m3, m4, m5⟩ := id hm
  have e0 : sf (0 : Int).toNat = (T.1.length : Int) := hm.1
  refine eb_T.of (by decide +kernel) (Nat.le_of_ble_eq_true rfl) ?_
  show eb_V _ _ 0 [.ref 67, .int (eb_I v), eb_no] [] (n, 0, 0) h _
  refine V_iload_n eX10_seed_0 rfl rfl ?_
  refine V_if_ge (tgt := 7) eX10_seed_1 rfl (by omega) (fun c_1 => ?_) (fun c_1 => ?_)
  · refine V_aload_n eX10_seed_7 rfl rfl ?_
    refine V_getf eX10_seed_8 H_this rfl ?_
    rw [k3]
    refine V_istore_n eX10_seed_11 rfl (Nat.le_of_ble_eq_true rfl) rfl (eb_sS (eb_sS eb_s0)) ?_
    refine V_aload_n eX10_seed_12 rfl rfl ?_
    refine V_iload_n eX10_seed_13 rfl rfl ?_
    refine V_putf eX10_seed_14 H_this eb_fitI (eb_sS (eb_sS (eb_sS eb_s0))) (Nat.le_of_ble_eq_true rfl) ?_
    show eb_V _ _ 17 _ _ _ (eb_up _ 67 (mo (eb_set cc 3 v))) _
    refine V_iload_n eX10_seed_17 rfl rfl ?_
    exact V_iret eX10_seed_18 ⟨Nat.zero_le _, Nat.zero_le _⟩ rfl (rfl) (⟨rfl, rfl, HR.deed eb_up_s ⟨k2, rfl, k5, k6, k19, k21⟩ (b3.kept (by simp [eb_up])) (b4.kept (by simp [eb_up])) (b5.kept (by simp [eb_up])) (b6.kept (by simp [eb_up]) (by simp [eb_up])) (b7.kept (fun k x y => eb_up_n (by omega) rfl)) (fun k z => eb_up_n (by omega) rfl)⟩)
  · exact absurd (by omega) c_1
theorem x10_keep_unk {v : Int} (HR : MR h T ty fa past seed i0 i1 sees book) (HO : SOK T ty fa past seed i0 i1 sees book) (hv : -2147483648 ≤ v ∧ v ≤ 2147483647) (hc : ¬ (0 ≤ v ∧ v ≤ 1)) : eb_T mX10_keep [.ref 67, .int (eb_I v)] n h (eb_G (some (.int (eb_I (-1000000001)))) n (fun h' => MR h' T ty fa past seed i0 i1 sees book ∧ L67 h h')) := by
  obtain ⟨cc, HR⟩ := HR
  obtain ⟨H_this, K, ⟨sf, H_this_st, hm⟩, ⟨pf, H_this_past, hp⟩, ⟨tf, H_this_typed, htf⟩, ⟨⟨ns, H_this_newSizes⟩, nl, H_this_newLetters⟩, ⟨⟨wd, H_this_wide⟩, HM, ⟨be, H_this_begins⟩, wi, H_this_with⟩, ⟨se, H_this_seen, hse⟩, ⟨bo, H_this_book, hbo⟩, ⟨⟨bb, H_this_beginsBy⟩, ib, H_this_isBy⟩, imf, kp, H_this_images, H_this_isKept, hi0, hi1⟩ := id HR
  obtain ⟨b1, b2, b3, b4, b5, b6, b7, b8, b9, b10, b11⟩ := id HR
  obtain ⟨k2, k3, k5, k6, k19, k21⟩ := K
  obtain ⟨HT, hty, hfa, hpo, hsd, hg0, hg1, hsu, hbk⟩ := id HO
  have hN : T.1.length ≤ 40 := HT.1.1
  obtain ⟨m0, m1, m2, m3, m4, m5⟩ := id hm
  have e0 : sf (0 : Int).toNat = (T.1.length : Int) := hm.1
  refine eb_T.of (by decide +kernel) (Nat.le_of_ble_eq_true rfl) ?_
  show eb_V _ _ 0 [.ref 67, .int (eb_I v), eb_no] [] (n, 0, 0) h _
  refine V_iload_n eX10_keep_0 rfl rfl ?_
  refine V_i2lI eX10_keep_1 (by omega) ?_
  refine V_lconst (b := 0) eX10_keep_2 (by decide) ?_
  refine V_lconst (b := 1) eX10_keep_3 (by decide) ?_
  refine V_csi eX10_keep_4 (c_X10_in (by omega)) rfl rfl (Nat.le_of_ble_eq_true rfl) ⟨rfl, rfl⟩ ⟨Nat.zero_le _, Nat.zero_le _⟩ ?_
  rw [if_neg hc]
  refine V_if_ne (tgt := 13) eX10_keep_7 rfl (by omega) (fun c_7 => ?_) (fun c_7 => ?_)
  · exact absurd rfl c_7
  · refine V_ldc (a := -1000000001) eX10_keep_10 wd_841 (by decide) ?_
    exact V_iret eX10_keep_12 ⟨Nat.zero_le _, Nat.zero_le _⟩ rfl (rfl) (⟨rfl, rfl, ⟨cc, HR⟩, fun _ _ => rfl⟩)
theorem x10_goBack_unk {v : Int} (HR : MR h T ty fa past seed i0 i1 sees book) (HO : SOK T ty fa past seed i0 i1 sees book) (hv : -2147483648 ≤ v ∧ v ≤ 2147483647) (hc : ¬ (0 ≤ v ∧ v ≤ 1)) : eb_T mX10_goBack [.ref 67, .int (eb_I v)] n h (eb_G (some (.int (eb_I (-1000000001)))) n (fun h' => MR h' T ty fa past seed i0 i1 sees book ∧ L67 h h')) := by
  obtain ⟨cc, HR⟩ := HR
  obtain ⟨H_this, K, ⟨sf, H_this_st, hm⟩, ⟨pf, H_this_past, hp⟩, ⟨tf, H_this_typed, htf⟩, ⟨⟨ns, H_this_newSizes⟩, nl, H_this_newLetters⟩, ⟨⟨wd, H_this_wide⟩, HM, ⟨be, H_this_begins⟩, wi, H_this_with⟩, ⟨se, H_this_seen, hse⟩, ⟨bo, H_this_book, hbo⟩, ⟨⟨bb, H_this_beginsBy⟩, ib, H_this_isBy⟩, imf, kp, H_this_images, H_this_isKept, hi0, hi1⟩ := id HR
  obtain ⟨b1, b2, b3, b4, b5, b6, b7, b8, b9, b10, b11⟩ := id HR
  obtain ⟨k2, k3, k5, k6, k19, k21⟩ := K
  obtain ⟨HT, hty, hfa, hpo, hsd, hg0, hg1, hsu, hbk⟩ := id HO
  have hN : T.1.length ≤ 40 := HT.1.1
  obtain ⟨m0, m1, m2, m3, m4, m5⟩ := id hm
  have e0 : sf (0 : Int).toNat = (T.1.length : Int) := hm.1
  refine eb_T.of (by decide +kernel) (Nat.le_of_ble_eq_true rfl) ?_
  show eb_V _ _ 0 [.ref 67, .int (eb_I v), eb_no] [] (n, 0, 0) h _
  refine V_iload_n eX10_goBack_0 rfl rfl ?_
  refine V_i2lI eX10_goBack_1 (by omega) ?_
  refine V_lconst (b := 0) eX10_goBack_2 (by decide) ?_
  refine V_lconst (b := 1) eX10_goBack_3 (by decide) ?_
  refine V_csi eX10_goBack_4 (c_X10_in (by omega)) rfl rfl (Nat.le_of_ble_eq_true rfl) ⟨rfl, rfl⟩ ⟨Nat.zero_le _, Nat.zero_le _⟩ ?_
  rw [if_neg hc]
  refine V_if_ne (tgt := 13) eX10_goBack_7 rfl (by omega) (fun c_7 => ?_) (fun c_7 => ?_)
  · exact absurd rfl c_7
  · refine V_ldc (a := -1000000001) eX10_goBack_10 wd_841 (by decide) ?_
    exact V_iret eX10_goBack_12 ⟨Nat.zero_le _, Nat.zero_le _⟩ rfl (rfl) (⟨rfl, rfl, ⟨cc, HR⟩, fun _ _ => rfl⟩)
theorem x10_keep_0 (HR : MR h T ty fa past seed i0 i1 sees book) (HO : SOK T ty fa past seed i0 i1 sees book) : eb_T mX10_keep [.ref 67, .int (eb_I 0)] n h (eb_G (some (.int (eb_I (1)))) n (fun h' => MR h' T ty fa [] seed (some (T, seed)) i1 sees book ∧ L67 h h')) := by
  obtain ⟨cc, HR⟩ := HR
  obtain ⟨H_this, K, ⟨sf, H_this_st, hm⟩, ⟨pf, H_this_past, hp⟩, ⟨tf, H_this_typed, htf⟩, ⟨⟨ns, H_this_newSizes⟩, nl, H_this_newLetters⟩, ⟨⟨wd, H_this_wide⟩, HM, ⟨be, H_this_begins⟩, wi, H_this_with⟩, ⟨se, H_this_seen, hse⟩, ⟨bo, H_this_book, hbo⟩, ⟨⟨bb, H_this_beginsBy⟩, ib, H_this_isBy⟩, imf, kp, H_this_images, H_this_isKept, hi0, hi1⟩ := id HR
  obtain ⟨b1, b2, b3, b4, b5, b6, b7, b8, b9, b10, b11⟩ := id HR
  obtain ⟨k2, k3, k5, k6, k19, k21⟩ := K
  obtain ⟨HT, hty, hfa, hpo, hsd, hg0, hg1, hsu, hbk⟩ := id HO
  have hN : T.1.length ≤ 40 := HT.1.1
  obtain ⟨m0, m1, m2, m3, m4, m5⟩ := id hm
  have e0 : sf (0 : Int).toNat = (T.1.length : Int) := hm.1
  refine eb_T.of (by decide +kernel) (Nat.le_of_ble_eq_true rfl) ?_
  show eb_V _ _ 0 [.ref 67, .int (eb_I 0), eb_no] [] (n, 0, 0) h _
  have loop : ∀ (d k : Nat) (h3 : eb_H) (f : Nat → Int), k + d = 525 → h3 84 = eb_ia 1052 f → (∀ i, i ≠ 84 → h3 i = h i) → (∀ i, i < k → f (0 + i) = sf i) → (∀ i, i < 526 → f (526 + i) = imf (526 + i)) → eb_V mX10_keep (fun _ _ _ => True) 15 [.ref 67, .int (eb_I 0), .int (eb_I (k : Int))] [] (n, 0, 0) h3 (eb_R mX10_keep (eb_G (some (.int (eb_I 1))) n (fun h' => MR h' T ty fa [] seed (some (T, seed)) i1 sees book ∧ L67 h h'))) := by
    intro d
    induction d with
    | zero =>
      intro k h3 f hk B1 B2 B3 B4
      have H_this : h3 67 = _ := (B2 67 (by omega)).trans H_this
      have H_this_images := B1
      have H_this_isKept : h3 85 = _ := (B2 85 (by omega)).trans H_this_isKept
      have n1 : ((526 : Int) * 0 + 525).toNat = 525 := by omega
      have HJ : mim (eb_set f 525 seed) (eb_set kp (0 : Int).toNat 1) 0 (some (T, seed)) := ⟨rfl, hm.cg HT (fun i hi => by
        show eb_set f 525 seed (526 * 0 + i) = sf i
        unfold eb_set
        rw [if_neg (by omega)]
        exact B3 i (by omega)), rfl⟩
      have HOo : mim (eb_set f 525 seed) (eb_set kp (0 : Int).toNat 1) 1 i1 := by
        cases hI : i1 with
        | none =>
          rw [hI] at hi1
          exact hi1
        | some q =>
          rw [hI] at hi1
          obtain ⟨x1, x2, x3⟩ := hi1
          refine ⟨x1, x2.cg (hg1 q hI).1 (fun i hi => ?_), ?_⟩
          · show eb_set f 525 seed (526 * 1 + i) = imf (526 * 1 + i)
            unfold eb_set
            rw [if_neg (by omega)]
            exact B4 i (by omega)
          · show eb_set f 525 seed (526 * 1 + 525) = q.2
            unfold eb_set
            rw [if_neg (by omega), ← x3]
            exact B4 525 (by omega)
      refine V_iload_n eX10_keep_15 rfl rfl ?_
      refine V_sipush eX10_keep_16 (by decide) ?_
      refine V_icmp_ge (tgt := 46) eX10_keep_19 rfl (by omega) (fun c_19 => ?_) (fun c_19 => ?_)
      · refine V_aload_n eX10_keep_46 rfl rfl ?_
        refine V_getf eX10_keep_47 H_this rfl ?_
        refine V_sipush eX10_keep_50 (by decide) ?_
        refine V_iload_n eX10_keep_53 rfl rfl ?_
        refine V_imul eX10_keep_54 ?_
        refine V_sipush eX10_keep_55 (by decide) ?_
        refine V_iadd eX10_keep_58 ?_
        refine V_aload_n eX10_keep_59 rfl rfl ?_
        refine V_getf eX10_keep_60 H_this rfl ?_
        rw [k3]
        refine V_iast eX10_keep_63 H_this_images (by omega) ?_
        rw [n1]
        refine V_aload_n eX10_keep_64 rfl rfl ?_
        refine V_getf eX10_keep_65 (eb_up_n (by omega) H_this) rfl ?_
        refine V_iload_n eX10_keep_68 rfl rfl ?_
        refine V_iconst eX10_keep_69 ?_
        refine V_zast eX10_keep_70 (eb_up_n (by omega) H_this_isKept) (by omega) (Or.inr rfl) ?_
        refine V_aload_n eX10_keep_71 rfl rfl ?_
        refine V_iconst eX10_keep_72 ?_
        refine V_putf eX10_keep_73 (eb_up_n (by omega) (eb_up_n (by omega) H_this)) eb_fitI (eb_sS (eb_sS eb_s0)) (Nat.le_of_ble_eq_true rfl) ?_
        show eb_V _ _ 76 _ _ _ (eb_up _ 67 (mo (eb_set cc 2 0))) _
        refine V_iconst eX10_keep_76 ?_
        exact V_iret eX10_keep_77 ⟨Nat.zero_le _, Nat.zero_le _⟩ rfl (rfl) (⟨rfl, rfl, ⟨eb_set cc 2 0, eb_up_s, ⟨rfl, k3, k5, k6, k19, k21⟩, b3.kept (eb_up_n (by omega) (eb_up_n (by omega) (eb_up_n (by omega) (B2 68 (by omega))))), ⟨pf, eb_up_n (by omega) (eb_up_n (by omega) (eb_up_n (by omega) ((B2 69 (by omega)).trans H_this_past))), fun i hi => absurd hi (by simp)⟩, b5.kept (eb_up_n (by omega) (eb_up_n (by omega) (eb_up_n (by omega) (B2 70 (by omega))))), b6.kept (eb_up_n (by omega) (eb_up_n (by omega) (eb_up_n (by omega) (B2 71 (by omega))))) (eb_up_n (by omega) (eb_up_n (by omega) (eb_up_n (by omega) (B2 72 (by omega))))), b7.kept (fun k x y => eb_up_n (by omega) (eb_up_n (by omega) (eb_up_n (by omega) (B2 k (by omega))))), b8.kept (eb_up_n (by omega) (eb_up_n (by omega) (eb_up_n (by omega) (B2 80 (by omega))))), b9.kept (eb_up_n (by omega) (eb_up_n (by omega) (eb_up_n (by omega) (B2 81 (by omega))))), b10.kept (eb_up_n (by omega) (eb_up_n (by omega) (eb_up_n (by omega) (B2 82 (by omega))))) (eb_up_n (by omega) (eb_up_n (by omega) (eb_up_n (by omega) (B2 83 (by omega))))), _, _, eb_up_n (by omega) (eb_up_n (by omega) eb_up_s), eb_up_n (by omega) eb_up_s, HJ, HOo⟩, fun k z => eb_up_n (by omega) (eb_up_n (by omega) (eb_up_n (by omega) (B2 k (by omega))))⟩)
      · exact absurd (by omega) c_19
    | succ d ih =>
      intro k h3 f hk B1 B2 B3 B4
      have H_this : h3 67 = _ := (B2 67 (by omega)).trans H_this
      have H_this_images := B1
      have H_this_st : h3 68 = _ := (B2 68 (by omega)).trans H_this_st
      have n1 : ((526 : Int) * 0 + (k : Int)).toNat = 0 + k := by omega
      refine V_iload_n eX10_keep_15 rfl rfl ?_
      refine V_sipush eX10_keep_16 (by decide) ?_
      refine V_icmp_ge (tgt := 46) eX10_keep_19 rfl (by omega) (fun c_19 => ?_) (fun c_19 => ?_)
      · exact absurd c_19 (by omega)
      · refine V_aload_n eX10_keep_22 rfl rfl ?_
        refine V_getf eX10_keep_23 H_this rfl ?_
        refine V_sipush eX10_keep_26 (by decide) ?_
        refine V_iload_n eX10_keep_29 rfl rfl ?_
        refine V_imul eX10_keep_30 ?_
        refine V_iload_n eX10_keep_31 rfl rfl ?_
        refine V_iadd eX10_keep_32 ?_
        refine V_aload_n eX10_keep_33 rfl rfl ?_
        refine V_getf eX10_keep_34 H_this rfl ?_
        refine V_iload_n eX10_keep_37 rfl rfl ?_
        refine V_iald eX10_keep_38 H_this_st (by omega) ?_
        rw [Int.toNat_natCast]
        refine V_iast eX10_keep_39 H_this_images (by omega) ?_
        rw [n1]
        refine V_iinc eX10_keep_40 rfl rfl (eb_sS (eb_sS eb_s0)) ?_
        refine V_goto (tgt := 15) eX10_keep_43 rfl ?_
        exact ih (k + 1) _ _ (by omega) eb_up_s (fun j z => eb_up_n z (B2 j z)) (fun j hj => by
          unfold eb_set
          by_cases y : j = k
          · rw [if_pos (by omega), y]
          · rw [if_neg (by omega)]
            exact B3 j (by omega)) (fun j hj => by
          unfold eb_set
          rw [if_neg (by omega)]
          exact B4 j hj)
  refine V_iload_n eX10_keep_0 rfl rfl ?_
  refine V_i2lI eX10_keep_1 (by omega) ?_
  refine V_lconst (b := 0) eX10_keep_2 (by decide) ?_
  refine V_lconst (b := 1) eX10_keep_3 (by decide) ?_
  refine V_csi eX10_keep_4 (c_X10_in (by omega)) rfl rfl (Nat.le_of_ble_eq_true rfl) ⟨rfl, rfl⟩ ⟨Nat.zero_le _, Nat.zero_le _⟩ ?_
  rw [if_pos (by omega)]
  refine V_if_ne (tgt := 13) eX10_keep_7 rfl (by omega) (fun c_7 => ?_) (fun c_7 => ?_)
  · refine V_iconst eX10_keep_13 ?_
    refine V_istore_n eX10_keep_14 rfl (Nat.le_of_ble_eq_true rfl) rfl (eb_sS (eb_sS eb_s0)) ?_
    exact loop 525 0 h imf (by omega) H_this_images (fun _ _ => rfl) (fun j hj => absurd hj (by omega)) (fun _ _ => rfl)
  · exact absurd c_7 (by decide)
theorem x10_goBack_not_0 (HR : MR h T ty fa past seed none i1 sees book) (HO : SOK T ty fa past seed none i1 sees book) : eb_T mX10_goBack [.ref 67, .int (eb_I 0)] n h (eb_G (some (.int (eb_I (-1000000003)))) n (fun h' => MR h' T ty fa past seed none i1 sees book ∧ L67 h h')) := by
  obtain ⟨cc, HR⟩ := HR
  obtain ⟨H_this, K, ⟨sf, H_this_st, hm⟩, ⟨pf, H_this_past, hp⟩, ⟨tf, H_this_typed, htf⟩, ⟨⟨ns, H_this_newSizes⟩, nl, H_this_newLetters⟩, ⟨⟨wd, H_this_wide⟩, HM, ⟨be, H_this_begins⟩, wi, H_this_with⟩, ⟨se, H_this_seen, hse⟩, ⟨bo, H_this_book, hbo⟩, ⟨⟨bb, H_this_beginsBy⟩, ib, H_this_isBy⟩, imf, kp, H_this_images, H_this_isKept, hi0, hi1⟩ := id HR
  obtain ⟨b1, b2, b3, b4, b5, b6, b7, b8, b9, b10, b11⟩ := id HR
  obtain ⟨k2, k3, k5, k6, k19, k21⟩ := K
  obtain ⟨HT, hty, hfa, hpo, hsd, hg0, hg1, hsu, hbk⟩ := id HO
  have hN : T.1.length ≤ 40 := HT.1.1
  obtain ⟨m0, m1, m2, m3, m4, m5⟩ := id hm
  have e0 : sf (0 : Int).toNat = (T.1.length : Int) := hm.1
  refine eb_T.of (by decide +kernel) (Nat.le_of_ble_eq_true rfl) ?_
  show eb_V _ _ 0 [.ref 67, .int (eb_I 0), eb_no] [] (n, 0, 0) h _
  have ek : kp (0 : Int).toNat = 0 := hi0
  refine V_iload_n eX10_goBack_0 rfl rfl ?_
  refine V_i2lI eX10_goBack_1 (by omega) ?_
  refine V_lconst (b := 0) eX10_goBack_2 (by decide) ?_
  refine V_lconst (b := 1) eX10_goBack_3 (by decide) ?_
  refine V_csi eX10_goBack_4 (c_X10_in (by omega)) rfl rfl (Nat.le_of_ble_eq_true rfl) ⟨rfl, rfl⟩ ⟨Nat.zero_le _, Nat.zero_le _⟩ ?_
  rw [if_pos (by omega)]
  refine V_if_ne (tgt := 13) eX10_goBack_7 rfl (by omega) (fun c_7 => ?_) (fun c_7 => ?_)
  · refine V_aload_n eX10_goBack_13 rfl rfl ?_
    refine V_getf eX10_goBack_14 H_this rfl ?_
    refine V_iload_n eX10_goBack_17 rfl rfl ?_
    refine V_zald eX10_goBack_18 H_this_isKept (by omega) ?_
    rw [ek]
    refine V_if_ne (tgt := 25) eX10_goBack_19 rfl (by omega) (fun c_19 => ?_) (fun c_19 => ?_)
    · exact absurd rfl c_19
    · refine V_ldc (a := -1000000003) eX10_goBack_22 wd_930 (by decide) ?_
      exact V_iret eX10_goBack_24 ⟨Nat.zero_le _, Nat.zero_le _⟩ rfl (rfl) (⟨rfl, rfl, ⟨cc, HR⟩, fun _ _ => rfl⟩)
  · exact absurd c_7 (by decide)
theorem x10_goBack_0 {q : TX × Int} (HR : MR h T ty fa past seed (some q) i1 sees book) (HO : SOK T ty fa past seed (some q) i1 sees book) : eb_T mX10_goBack [.ref 67, .int (eb_I 0)] n h (eb_G (some (.int (eb_I (1)))) n (fun h' => MR h' q.1 ty fa [] q.2 (some q) i1 sees book ∧ L67 h h')) := by
  obtain ⟨cc, HR⟩ := HR
  obtain ⟨H_this, K, ⟨sf, H_this_st, hm⟩, ⟨pf, H_this_past, hp⟩, ⟨tf, H_this_typed, htf⟩, ⟨⟨ns, H_this_newSizes⟩, nl, H_this_newLetters⟩, ⟨⟨wd, H_this_wide⟩, HM, ⟨be, H_this_begins⟩, wi, H_this_with⟩, ⟨se, H_this_seen, hse⟩, ⟨bo, H_this_book, hbo⟩, ⟨⟨bb, H_this_beginsBy⟩, ib, H_this_isBy⟩, imf, kp, H_this_images, H_this_isKept, hi0, hi1⟩ := id HR
  obtain ⟨b1, b2, b3, b4, b5, b6, b7, b8, b9, b10, b11⟩ := id HR
  obtain ⟨k2, k3, k5, k6, k19, k21⟩ := K
  obtain ⟨HT, hty, hfa, hpo, hsd, hg0, hg1, hsu, hbk⟩ := id HO
  have hN : T.1.length ≤ 40 := HT.1.1
  obtain ⟨m0, m1, m2, m3, m4, m5⟩ := id hm
  have e0 : sf (0 : Int).toNat = (T.1.length : Int) := hm.1
  refine eb_T.of (by decide +kernel) (Nat.le_of_ble_eq_true rfl) ?_
  show eb_V _ _ 0 [.ref 67, .int (eb_I 0), eb_no] [] (n, 0, 0) h _
  obtain ⟨x1, x2, x3⟩ := id hi0
  have ek : kp (0 : Int).toNat = 1 := x1
  have HQ := (hg0 q rfl).1
  have loop : ∀ (d k : Nat) (h3 : eb_H) (f : Nat → Int), k + d = 525 → h3 68 = eb_ia 525 f → (∀ i, i ≠ 68 → h3 i = h i) → (∀ i, i < k → f i = imf (526 * 0 + i)) → eb_V mX10_goBack (fun _ _ _ => True) 27 [.ref 67, .int (eb_I 0), .int (eb_I (k : Int))] [] (n, 0, 0) h3 (eb_R mX10_goBack (eb_G (some (.int (eb_I 1))) n (fun h' => MR h' q.1 ty fa [] q.2 (some q) i1 sees book ∧ L67 h h'))) := by
    intro d
    induction d with
    | zero =>
      intro k h3 f hk B1 B2 B3
      have H_this : h3 67 = _ := (B2 67 (by omega)).trans H_this
      have H_this_st := B1
      have H_this_images : h3 84 = _ := (B2 84 (by omega)).trans H_this_images
      have n1 : ((526 : Int) * 0 + 525).toNat = 526 * 0 + 525 := by omega
      have hmf : ms f q.1 := x2.cg HQ (fun i hi => B3 i (by omega))
      refine V_iload_n eX10_goBack_27 rfl rfl ?_
      refine V_sipush eX10_goBack_28 (by decide) ?_
      refine V_icmp_ge (tgt := 58) eX10_goBack_31 rfl (by omega) (fun c_31 => ?_) (fun c_31 => ?_)
      · refine V_aload_n eX10_goBack_58 rfl rfl ?_
        refine V_aload_n eX10_goBack_59 rfl rfl ?_
        refine V_getf eX10_goBack_60 H_this rfl ?_
        refine V_sipush eX10_goBack_63 (by decide) ?_
        refine V_iload_n eX10_goBack_66 rfl rfl ?_
        refine V_imul eX10_goBack_67 ?_
        refine V_sipush eX10_goBack_68 (by decide) ?_
        refine V_iadd eX10_goBack_71 ?_
        refine V_iald eX10_goBack_72 H_this_images (by omega) ?_
        rw [n1, x3]
        refine V_putf eX10_goBack_73 H_this eb_fitI (eb_sS (eb_sS (eb_sS eb_s0))) (Nat.le_of_ble_eq_true rfl) ?_
        show eb_V _ _ 76 _ _ _ (eb_up _ 67 (mo (eb_set cc 3 q.2))) _
        refine V_aload_n eX10_goBack_76 rfl rfl ?_
        refine V_iconst eX10_goBack_77 ?_
        refine V_putf eX10_goBack_78 eb_up_s eb_fitI (eb_sS (eb_sS eb_s0)) (Nat.le_of_ble_eq_true rfl) ?_
        show eb_V _ _ 81 _ _ _ (eb_up _ 67 (mo (eb_set (eb_set cc 3 q.2) 2 0))) _
        refine V_iconst eX10_goBack_81 ?_
        exact V_iret eX10_goBack_82 ⟨Nat.zero_le _, Nat.zero_le _⟩ rfl (rfl) (⟨rfl, rfl, HR.deed eb_up_s ⟨rfl, rfl, k5, k6, k19, k21⟩ ⟨f, eb_up_n (by omega) (eb_up_n (by omega) B1), hmf⟩ ⟨pf, eb_up_n (by omega) (eb_up_n (by omega) ((B2 69 (by omega)).trans H_this_past)), fun i hi => absurd hi (by simp)⟩ (b5.kept (eb_up_n (by omega) (eb_up_n (by omega) (B2 70 (by omega))))) (b6.kept (eb_up_n (by omega) (eb_up_n (by omega) (B2 71 (by omega)))) (eb_up_n (by omega) (eb_up_n (by omega) (B2 72 (by omega))))) (b7.kept (fun k x y => eb_up_n (by omega) (eb_up_n (by omega) (B2 k (by omega))))) (fun k z => eb_up_n (by omega) (eb_up_n (by omega) (B2 k (by omega))))⟩)
      · exact absurd (by omega) c_31
    | succ d ih =>
      intro k h3 f hk B1 B2 B3
      have H_this : h3 67 = _ := (B2 67 (by omega)).trans H_this
      have H_this_st := B1
      have H_this_images : h3 84 = _ := (B2 84 (by omega)).trans H_this_images
      have n1 : ((526 : Int) * 0 + (k : Int)).toNat = 526 * 0 + k := by omega
      refine V_iload_n eX10_goBack_27 rfl rfl ?_
      refine V_sipush eX10_goBack_28 (by decide) ?_
      refine V_icmp_ge (tgt := 58) eX10_goBack_31 rfl (by omega) (fun c_31 => ?_) (fun c_31 => ?_)
      · exact absurd c_31 (by omega)
      · refine V_aload_n eX10_goBack_34 rfl rfl ?_
        refine V_getf eX10_goBack_35 H_this rfl ?_
        refine V_iload_n eX10_goBack_38 rfl rfl ?_
        refine V_aload_n eX10_goBack_39 rfl rfl ?_
        refine V_getf eX10_goBack_40 H_this rfl ?_
        refine V_sipush eX10_goBack_43 (by decide) ?_
        refine V_iload_n eX10_goBack_46 rfl rfl ?_
        refine V_imul eX10_goBack_47 ?_
        refine V_iload_n eX10_goBack_48 rfl rfl ?_
        refine V_iadd eX10_goBack_49 ?_
        refine V_iald eX10_goBack_50 H_this_images (by omega) ?_
        rw [n1]
        refine V_iast eX10_goBack_51 H_this_st (by omega) ?_
        rw [Int.toNat_natCast]
        refine V_iinc eX10_goBack_52 rfl rfl (eb_sS (eb_sS eb_s0)) ?_
        refine V_goto (tgt := 27) eX10_goBack_55 rfl ?_
        exact ih (k + 1) _ _ (by omega) eb_up_s (fun j z => eb_up_n z (B2 j z)) (fun j hj => by
          unfold eb_set
          by_cases y : j = k
          · rw [if_pos y, y]
          · rw [if_neg y]
            exact B3 j (by omega))
  refine V_iload_n eX10_goBack_0 rfl rfl ?_
  refine V_i2lI eX10_goBack_1 (by omega) ?_
  refine V_lconst (b := 0) eX10_goBack_2 (by decide) ?_
  refine V_lconst (b := 1) eX10_goBack_3 (by decide) ?_
  refine V_csi eX10_goBack_4 (c_X10_in (by omega)) rfl rfl (Nat.le_of_ble_eq_true rfl) ⟨rfl, rfl⟩ ⟨Nat.zero_le _, Nat.zero_le _⟩ ?_
  rw [if_pos (by omega)]
  refine V_if_ne (tgt := 13) eX10_goBack_7 rfl (by omega) (fun c_7 => ?_) (fun c_7 => ?_)
  · refine V_aload_n eX10_goBack_13 rfl rfl ?_
    refine V_getf eX10_goBack_14 H_this rfl ?_
    refine V_iload_n eX10_goBack_17 rfl rfl ?_
    refine V_zald eX10_goBack_18 H_this_isKept (by omega) ?_
    rw [ek]
    refine V_if_ne (tgt := 25) eX10_goBack_19 rfl (by omega) (fun c_19 => ?_) (fun c_19 => ?_)
    · refine V_iconst eX10_goBack_25 ?_
      refine V_istore_n eX10_goBack_26 rfl (Nat.le_of_ble_eq_true rfl) rfl (eb_sS (eb_sS eb_s0)) ?_
      exact loop 525 0 h sf (by omega) H_this_st (fun _ _ => rfl) (fun j hj => absurd hj (by omega))
    · exact absurd c_19 (by decide)
  · exact absurd c_7 (by decide)
theorem x10_keep_1 (HR : MR h T ty fa past seed i0 i1 sees book) (HO : SOK T ty fa past seed i0 i1 sees book) : eb_T mX10_keep [.ref 67, .int (eb_I 1)] n h (eb_G (some (.int (eb_I (1)))) n (fun h' => MR h' T ty fa [] seed i0 (some (T, seed)) sees book ∧ L67 h h')) := by
  obtain ⟨cc, HR⟩ := HR
  obtain ⟨H_this, K, ⟨sf, H_this_st, hm⟩, ⟨pf, H_this_past, hp⟩, ⟨tf, H_this_typed, htf⟩, ⟨⟨ns, H_this_newSizes⟩, nl, H_this_newLetters⟩, ⟨⟨wd, H_this_wide⟩, HM, ⟨be, H_this_begins⟩, wi, H_this_with⟩, ⟨se, H_this_seen, hse⟩, ⟨bo, H_this_book, hbo⟩, ⟨⟨bb, H_this_beginsBy⟩, ib, H_this_isBy⟩, imf, kp, H_this_images, H_this_isKept, hi0, hi1⟩ := id HR
  obtain ⟨b1, b2, b3, b4, b5, b6, b7, b8, b9, b10, b11⟩ := id HR
  obtain ⟨k2, k3, k5, k6, k19, k21⟩ := K
  obtain ⟨HT, hty, hfa, hpo, hsd, hg0, hg1, hsu, hbk⟩ := id HO
  have hN : T.1.length ≤ 40 := HT.1.1
  obtain ⟨m0, m1, m2, m3, m4, m5⟩ := id hm
  have e0 : sf (0 : Int).toNat = (T.1.length : Int) := hm.1
  refine eb_T.of (by decide +kernel) (Nat.le_of_ble_eq_true rfl) ?_
  show eb_V _ _ 0 [.ref 67, .int (eb_I 1), eb_no] [] (n, 0, 0) h _
  have loop : ∀ (d k : Nat) (h3 : eb_H) (f : Nat → Int), k + d = 525 → h3 84 = eb_ia 1052 f → (∀ i, i ≠ 84 → h3 i = h i) → (∀ i, i < k → f (526 + i) = sf i) → (∀ i, i < 526 → f (0 + i) = imf (0 + i)) → eb_V mX10_keep (fun _ _ _ => True) 15 [.ref 67, .int (eb_I 1), .int (eb_I (k : Int))] [] (n, 0, 0) h3 (eb_R mX10_keep (eb_G (some (.int (eb_I 1))) n (fun h' => MR h' T ty fa [] seed i0 (some (T, seed)) sees book ∧ L67 h h'))) := by
    intro d
    induction d with
    | zero =>
      intro k h3 f hk B1 B2 B3 B4
      have H_this : h3 67 = _ := (B2 67 (by omega)).trans H_this
      have H_this_images := B1
      have H_this_isKept : h3 85 = _ := (B2 85 (by omega)).trans H_this_isKept
      have n1 : ((526 : Int) * 1 + 525).toNat = 1051 := by omega
      have HJ : mim (eb_set f 1051 seed) (eb_set kp (1 : Int).toNat 1) 1 (some (T, seed)) := ⟨rfl, hm.cg HT (fun i hi => by
        show eb_set f 1051 seed (526 * 1 + i) = sf i
        unfold eb_set
        rw [if_neg (by omega)]
        exact B3 i (by omega)), rfl⟩
      have HOo : mim (eb_set f 1051 seed) (eb_set kp (1 : Int).toNat 1) 0 i0 := by
        cases hI : i0 with
        | none =>
          rw [hI] at hi0
          exact hi0
        | some q =>
          rw [hI] at hi0
          obtain ⟨x1, x2, x3⟩ := hi0
          refine ⟨x1, x2.cg (hg0 q hI).1 (fun i hi => ?_), ?_⟩
          · show eb_set f 1051 seed (526 * 0 + i) = imf (526 * 0 + i)
            unfold eb_set
            rw [if_neg (by omega)]
            exact B4 i (by omega)
          · show eb_set f 1051 seed (526 * 0 + 525) = q.2
            unfold eb_set
            rw [if_neg (by omega), ← x3]
            exact B4 525 (by omega)
      refine V_iload_n eX10_keep_15 rfl rfl ?_
      refine V_sipush eX10_keep_16 (by decide) ?_
      refine V_icmp_ge (tgt := 46) eX10_keep_19 rfl (by omega) (fun c_19 => ?_) (fun c_19 => ?_)
      · refine V_aload_n eX10_keep_46 rfl rfl ?_
        refine V_getf eX10_keep_47 H_this rfl ?_
        refine V_sipush eX10_keep_50 (by decide) ?_
        refine V_iload_n eX10_keep_53 rfl rfl ?_
        refine V_imul eX10_keep_54 ?_
        refine V_sipush eX10_keep_55 (by decide) ?_
        refine V_iadd eX10_keep_58 ?_
        refine V_aload_n eX10_keep_59 rfl rfl ?_
        refine V_getf eX10_keep_60 H_this rfl ?_
        rw [k3]
        refine V_iast eX10_keep_63 H_this_images (by omega) ?_
        rw [n1]
        refine V_aload_n eX10_keep_64 rfl rfl ?_
        refine V_getf eX10_keep_65 (eb_up_n (by omega) H_this) rfl ?_
        refine V_iload_n eX10_keep_68 rfl rfl ?_
        refine V_iconst eX10_keep_69 ?_
        refine V_zast eX10_keep_70 (eb_up_n (by omega) H_this_isKept) (by omega) (Or.inr rfl) ?_
        refine V_aload_n eX10_keep_71 rfl rfl ?_
        refine V_iconst eX10_keep_72 ?_
        refine V_putf eX10_keep_73 (eb_up_n (by omega) (eb_up_n (by omega) H_this)) eb_fitI (eb_sS (eb_sS eb_s0)) (Nat.le_of_ble_eq_true rfl) ?_
        show eb_V _ _ 76 _ _ _ (eb_up _ 67 (mo (eb_set cc 2 0))) _
        refine V_iconst eX10_keep_76 ?_
        exact V_iret eX10_keep_77 ⟨Nat.zero_le _, Nat.zero_le _⟩ rfl (rfl) (⟨rfl, rfl, ⟨eb_set cc 2 0, eb_up_s, ⟨rfl, k3, k5, k6, k19, k21⟩, b3.kept (eb_up_n (by omega) (eb_up_n (by omega) (eb_up_n (by omega) (B2 68 (by omega))))), ⟨pf, eb_up_n (by omega) (eb_up_n (by omega) (eb_up_n (by omega) ((B2 69 (by omega)).trans H_this_past))), fun i hi => absurd hi (by simp)⟩, b5.kept (eb_up_n (by omega) (eb_up_n (by omega) (eb_up_n (by omega) (B2 70 (by omega))))), b6.kept (eb_up_n (by omega) (eb_up_n (by omega) (eb_up_n (by omega) (B2 71 (by omega))))) (eb_up_n (by omega) (eb_up_n (by omega) (eb_up_n (by omega) (B2 72 (by omega))))), b7.kept (fun k x y => eb_up_n (by omega) (eb_up_n (by omega) (eb_up_n (by omega) (B2 k (by omega))))), b8.kept (eb_up_n (by omega) (eb_up_n (by omega) (eb_up_n (by omega) (B2 80 (by omega))))), b9.kept (eb_up_n (by omega) (eb_up_n (by omega) (eb_up_n (by omega) (B2 81 (by omega))))), b10.kept (eb_up_n (by omega) (eb_up_n (by omega) (eb_up_n (by omega) (B2 82 (by omega))))) (eb_up_n (by omega) (eb_up_n (by omega) (eb_up_n (by omega) (B2 83 (by omega))))), _, _, eb_up_n (by omega) (eb_up_n (by omega) eb_up_s), eb_up_n (by omega) eb_up_s, HOo, HJ⟩, fun k z => eb_up_n (by omega) (eb_up_n (by omega) (eb_up_n (by omega) (B2 k (by omega))))⟩)
      · exact absurd (by omega) c_19
    | succ d ih =>
      intro k h3 f hk B1 B2 B3 B4
      have H_this : h3 67 = _ := (B2 67 (by omega)).trans H_this
      have H_this_images := B1
      have H_this_st : h3 68 = _ := (B2 68 (by omega)).trans H_this_st
      have n1 : ((526 : Int) * 1 + (k : Int)).toNat = 526 + k := by omega
      refine V_iload_n eX10_keep_15 rfl rfl ?_
      refine V_sipush eX10_keep_16 (by decide) ?_
      refine V_icmp_ge (tgt := 46) eX10_keep_19 rfl (by omega) (fun c_19 => ?_) (fun c_19 => ?_)
      · exact absurd c_19 (by omega)
      · refine V_aload_n eX10_keep_22 rfl rfl ?_
        refine V_getf eX10_keep_23 H_this rfl ?_
        refine V_sipush eX10_keep_26 (by decide) ?_
        refine V_iload_n eX10_keep_29 rfl rfl ?_
        refine V_imul eX10_keep_30 ?_
        refine V_iload_n eX10_keep_31 rfl rfl ?_
        refine V_iadd eX10_keep_32 ?_
        refine V_aload_n eX10_keep_33 rfl rfl ?_
        refine V_getf eX10_keep_34 H_this rfl ?_
        refine V_iload_n eX10_keep_37 rfl rfl ?_
        refine V_iald eX10_keep_38 H_this_st (by omega) ?_
        rw [Int.toNat_natCast]
        refine V_iast eX10_keep_39 H_this_images (by omega) ?_
        rw [n1]
        refine V_iinc eX10_keep_40 rfl rfl (eb_sS (eb_sS eb_s0)) ?_
        refine V_goto (tgt := 15) eX10_keep_43 rfl ?_
        exact ih (k + 1) _ _ (by omega) eb_up_s (fun j z => eb_up_n z (B2 j z)) (fun j hj => by
          unfold eb_set
          by_cases y : j = k
          · rw [if_pos (by omega), y]
          · rw [if_neg (by omega)]
            exact B3 j (by omega)) (fun j hj => by
          unfold eb_set
          rw [if_neg (by omega)]
          exact B4 j hj)
  refine V_iload_n eX10_keep_0 rfl rfl ?_
  refine V_i2lI eX10_keep_1 (by omega) ?_
  refine V_lconst (b := 0) eX10_keep_2 (by decide) ?_
  refine V_lconst (b := 1) eX10_keep_3 (by decide) ?_
  refine V_csi eX10_keep_4 (c_X10_in (by omega)) rfl rfl (Nat.le_of_ble_eq_true rfl) ⟨rfl, rfl⟩ ⟨Nat.zero_le _, Nat.zero_le _⟩ ?_
  rw [if_pos (by omega)]
  refine V_if_ne (tgt := 13) eX10_keep_7 rfl (by omega) (fun c_7 => ?_) (fun c_7 => ?_)
  · refine V_iconst eX10_keep_13 ?_
    refine V_istore_n eX10_keep_14 rfl (Nat.le_of_ble_eq_true rfl) rfl (eb_sS (eb_sS eb_s0)) ?_
    exact loop 525 0 h imf (by omega) H_this_images (fun _ _ => rfl) (fun j hj => absurd hj (by omega)) (fun _ _ => rfl)
  · exact absurd c_7 (by decide)
theorem x10_goBack_not_1 (HR : MR h T ty fa past seed i0 none sees book) (HO : SOK T ty fa past seed i0 none sees book) : eb_T mX10_goBack [.ref 67, .int (eb_I 1)] n h (eb_G (some (.int (eb_I (-1000000003)))) n (fun h' => MR h' T ty fa past seed i0 none sees book ∧ L67 h h')) := by
  obtain ⟨cc, HR⟩ := HR
  obtain ⟨H_this, K, ⟨sf, H_this_st, hm⟩, ⟨pf, H_this_past, hp⟩, ⟨tf, H_this_typed, htf⟩, ⟨⟨ns, H_this_newSizes⟩, nl, H_this_newLetters⟩, ⟨⟨wd, H_this_wide⟩, HM, ⟨be, H_this_begins⟩, wi, H_this_with⟩, ⟨se, H_this_seen, hse⟩, ⟨bo, H_this_book, hbo⟩, ⟨⟨bb, H_this_beginsBy⟩, ib, H_this_isBy⟩, imf, kp, H_this_images, H_this_isKept, hi0, hi1⟩ := id HR
  obtain ⟨b1, b2, b3, b4, b5, b6, b7, b8, b9, b10, b11⟩ := id HR
  obtain ⟨k2, k3, k5, k6, k19, k21⟩ := K
  obtain ⟨HT, hty, hfa, hpo, hsd, hg0, hg1, hsu, hbk⟩ := id HO
  have hN : T.1.length ≤ 40 := HT.1.1
  obtain ⟨m0, m1, m2, m3, m4, m5⟩ := id hm
  have e0 : sf (0 : Int).toNat = (T.1.length : Int) := hm.1
  refine eb_T.of (by decide +kernel) (Nat.le_of_ble_eq_true rfl) ?_
  show eb_V _ _ 0 [.ref 67, .int (eb_I 1), eb_no] [] (n, 0, 0) h _
  have ek : kp (1 : Int).toNat = 0 := hi1
  refine V_iload_n eX10_goBack_0 rfl rfl ?_
  refine V_i2lI eX10_goBack_1 (by omega) ?_
  refine V_lconst (b := 0) eX10_goBack_2 (by decide) ?_
  refine V_lconst (b := 1) eX10_goBack_3 (by decide) ?_
  refine V_csi eX10_goBack_4 (c_X10_in (by omega)) rfl rfl (Nat.le_of_ble_eq_true rfl) ⟨rfl, rfl⟩ ⟨Nat.zero_le _, Nat.zero_le _⟩ ?_
  rw [if_pos (by omega)]
  refine V_if_ne (tgt := 13) eX10_goBack_7 rfl (by omega) (fun c_7 => ?_) (fun c_7 => ?_)
  · refine V_aload_n eX10_goBack_13 rfl rfl ?_
    refine V_getf eX10_goBack_14 H_this rfl ?_
    refine V_iload_n eX10_goBack_17 rfl rfl ?_
    refine V_zald eX10_goBack_18 H_this_isKept (by omega) ?_
    rw [ek]
    refine V_if_ne (tgt := 25) eX10_goBack_19 rfl (by omega) (fun c_19 => ?_) (fun c_19 => ?_)
    · exact absurd rfl c_19
    · refine V_ldc (a := -1000000003) eX10_goBack_22 wd_930 (by decide) ?_
      exact V_iret eX10_goBack_24 ⟨Nat.zero_le _, Nat.zero_le _⟩ rfl (rfl) (⟨rfl, rfl, ⟨cc, HR⟩, fun _ _ => rfl⟩)
  · exact absurd c_7 (by decide)
theorem x10_goBack_1 {q : TX × Int} (HR : MR h T ty fa past seed i0 (some q) sees book) (HO : SOK T ty fa past seed i0 (some q) sees book) : eb_T mX10_goBack [.ref 67, .int (eb_I 1)] n h (eb_G (some (.int (eb_I (1)))) n (fun h' => MR h' q.1 ty fa [] q.2 i0 (some q) sees book ∧ L67 h h')) := by
  obtain ⟨cc, HR⟩ := HR
  obtain ⟨H_this, K, ⟨sf, H_this_st, hm⟩, ⟨pf, H_this_past, hp⟩, ⟨tf, H_this_typed, htf⟩, ⟨⟨ns, H_this_newSizes⟩, nl, H_this_newLetters⟩, ⟨⟨wd, H_this_wide⟩, HM, ⟨be, H_this_begins⟩, wi, H_this_with⟩, ⟨se, H_this_seen, hse⟩, ⟨bo, H_this_book, hbo⟩, ⟨⟨bb, H_this_beginsBy⟩, ib, H_this_isBy⟩, imf, kp, H_this_images, H_this_isKept, hi0, hi1⟩ := id HR
  obtain ⟨b1, b2, b3, b4, b5, b6, b7, b8, b9, b10, b11⟩ := id HR
  obtain ⟨k2, k3, k5, k6, k19, k21⟩ := K
  obtain ⟨HT, hty, hfa, hpo, hsd, hg0, hg1, hsu, hbk⟩ := id HO
  have hN : T.1.length ≤ 40 := HT.1.1
  obtain ⟨m0, m1, m2, m3, m4, m5⟩ := id hm
  have e0 : sf (0 : Int).toNat = (T.1.length : Int) := hm.1
  refine eb_T.of (by decide +kernel) (Nat.le_of_ble_eq_true rfl) ?_
  show eb_V _ _ 0 [.ref 67, .int (eb_I 1), eb_no] [] (n, 0, 0) h _
  obtain ⟨x1, x2, x3⟩ := id hi1
  have ek : kp (1 : Int).toNat = 1 := x1
  have HQ := (hg1 q rfl).1
  have loop : ∀ (d k : Nat) (h3 : eb_H) (f : Nat → Int), k + d = 525 → h3 68 = eb_ia 525 f → (∀ i, i ≠ 68 → h3 i = h i) → (∀ i, i < k → f i = imf (526 * 1 + i)) → eb_V mX10_goBack (fun _ _ _ => True) 27 [.ref 67, .int (eb_I 1), .int (eb_I (k : Int))] [] (n, 0, 0) h3 (eb_R mX10_goBack (eb_G (some (.int (eb_I 1))) n (fun h' => MR h' q.1 ty fa [] q.2 i0 (some q) sees book ∧ L67 h h'))) := by
    intro d
    induction d with
    | zero =>
      intro k h3 f hk B1 B2 B3
      have H_this : h3 67 = _ := (B2 67 (by omega)).trans H_this
      have H_this_st := B1
      have H_this_images : h3 84 = _ := (B2 84 (by omega)).trans H_this_images
      have n1 : ((526 : Int) * 1 + 525).toNat = 526 * 1 + 525 := by omega
      have hmf : ms f q.1 := x2.cg HQ (fun i hi => B3 i (by omega))
      refine V_iload_n eX10_goBack_27 rfl rfl ?_
      refine V_sipush eX10_goBack_28 (by decide) ?_
      refine V_icmp_ge (tgt := 58) eX10_goBack_31 rfl (by omega) (fun c_31 => ?_) (fun c_31 => ?_)
      · refine V_aload_n eX10_goBack_58 rfl rfl ?_
        refine V_aload_n eX10_goBack_59 rfl rfl ?_
        refine V_getf eX10_goBack_60 H_this rfl ?_
        refine V_sipush eX10_goBack_63 (by decide) ?_
        refine V_iload_n eX10_goBack_66 rfl rfl ?_
        refine V_imul eX10_goBack_67 ?_
        refine V_sipush eX10_goBack_68 (by decide) ?_
        refine V_iadd eX10_goBack_71 ?_
        refine V_iald eX10_goBack_72 H_this_images (by omega) ?_
        rw [n1, x3]
        refine V_putf eX10_goBack_73 H_this eb_fitI (eb_sS (eb_sS (eb_sS eb_s0))) (Nat.le_of_ble_eq_true rfl) ?_
        show eb_V _ _ 76 _ _ _ (eb_up _ 67 (mo (eb_set cc 3 q.2))) _
        refine V_aload_n eX10_goBack_76 rfl rfl ?_
        refine V_iconst eX10_goBack_77 ?_
        refine V_putf eX10_goBack_78 eb_up_s eb_fitI (eb_sS (eb_sS eb_s0)) (Nat.le_of_ble_eq_true rfl) ?_
        show eb_V _ _ 81 _ _ _ (eb_up _ 67 (mo (eb_set (eb_set cc 3 q.2) 2 0))) _
        refine V_iconst eX10_goBack_81 ?_
        exact V_iret eX10_goBack_82 ⟨Nat.zero_le _, Nat.zero_le _⟩ rfl (rfl) (⟨rfl, rfl, HR.deed eb_up_s ⟨rfl, rfl, k5, k6, k19, k21⟩ ⟨f, eb_up_n (by omega) (eb_up_n (by omega) B1), hmf⟩ ⟨pf, eb_up_n (by omega) (eb_up_n (by omega) ((B2 69 (by omega)).trans H_this_past)), fun i hi => absurd hi (by simp)⟩ (b5.kept (eb_up_n (by omega) (eb_up_n (by omega) (B2 70 (by omega))))) (b6.kept (eb_up_n (by omega) (eb_up_n (by omega) (B2 71 (by omega)))) (eb_up_n (by omega) (eb_up_n (by omega) (B2 72 (by omega))))) (b7.kept (fun k x y => eb_up_n (by omega) (eb_up_n (by omega) (B2 k (by omega))))) (fun k z => eb_up_n (by omega) (eb_up_n (by omega) (B2 k (by omega))))⟩)
      · exact absurd (by omega) c_31
    | succ d ih =>
      intro k h3 f hk B1 B2 B3
      have H_this : h3 67 = _ := (B2 67 (by omega)).trans H_this
      have H_this_st := B1
      have H_this_images : h3 84 = _ := (B2 84 (by omega)).trans H_this_images
      have n1 : ((526 : Int) * 1 + (k : Int)).toNat = 526 * 1 + k := by omega
      refine V_iload_n eX10_goBack_27 rfl rfl ?_
      refine V_sipush eX10_goBack_28 (by decide) ?_
      refine V_icmp_ge (tgt := 58) eX10_goBack_31 rfl (by omega) (fun c_31 => ?_) (fun c_31 => ?_)
      · exact absurd c_31 (by omega)
      · refine V_aload_n eX10_goBack_34 rfl rfl ?_
        refine V_getf eX10_goBack_35 H_this rfl ?_
        refine V_iload_n eX10_goBack_38 rfl rfl ?_
        refine V_aload_n eX10_goBack_39 rfl rfl ?_
        refine V_getf eX10_goBack_40 H_this rfl ?_
        refine V_sipush eX10_goBack_43 (by decide) ?_
        refine V_iload_n eX10_goBack_46 rfl rfl ?_
        refine V_imul eX10_goBack_47 ?_
        refine V_iload_n eX10_goBack_48 rfl rfl ?_
        refine V_iadd eX10_goBack_49 ?_
        refine V_iald eX10_goBack_50 H_this_images (by omega) ?_
        rw [n1]
        refine V_iast eX10_goBack_51 H_this_st (by omega) ?_
        rw [Int.toNat_natCast]
        refine V_iinc eX10_goBack_52 rfl rfl (eb_sS (eb_sS eb_s0)) ?_
        refine V_goto (tgt := 27) eX10_goBack_55 rfl ?_
        exact ih (k + 1) _ _ (by omega) eb_up_s (fun j z => eb_up_n z (B2 j z)) (fun j hj => by
          unfold eb_set
          by_cases y : j = k
          · rw [if_pos y, y]
          · rw [if_neg y]
            exact B3 j (by omega))
  refine V_iload_n eX10_goBack_0 rfl rfl ?_
  refine V_i2lI eX10_goBack_1 (by omega) ?_
  refine V_lconst (b := 0) eX10_goBack_2 (by decide) ?_
  refine V_lconst (b := 1) eX10_goBack_3 (by decide) ?_
  refine V_csi eX10_goBack_4 (c_X10_in (by omega)) rfl rfl (Nat.le_of_ble_eq_true rfl) ⟨rfl, rfl⟩ ⟨Nat.zero_le _, Nat.zero_le _⟩ ?_
  rw [if_pos (by omega)]
  refine V_if_ne (tgt := 13) eX10_goBack_7 rfl (by omega) (fun c_7 => ?_) (fun c_7 => ?_)
  · refine V_aload_n eX10_goBack_13 rfl rfl ?_
    refine V_getf eX10_goBack_14 H_this rfl ?_
    refine V_iload_n eX10_goBack_17 rfl rfl ?_
    refine V_zald eX10_goBack_18 H_this_isKept (by omega) ?_
    rw [ek]
    refine V_if_ne (tgt := 25) eX10_goBack_19 rfl (by omega) (fun c_19 => ?_) (fun c_19 => ?_)
    · refine V_iconst eX10_goBack_25 ?_
      refine V_istore_n eX10_goBack_26 rfl (Nat.le_of_ble_eq_true rfl) rfl (eb_sS (eb_sS eb_s0)) ?_
      exact loop 525 0 h sf (by omega) H_this_st (fun _ _ => rfl) (fun j hj => absurd hj (by omega))
    · exact absurd c_19 (by decide)
  · exact absurd c_7 (by decide)
theorem x10_see_unk {e : Int} {x : Bool} (HR : MR h T ty fa past seed i0 i1 sees book) (HO : SOK T ty fa past seed i0 i1 sees book) (he : -2147483648 ≤ e ∧ e ≤ 2147483647) (hc : ¬ (0 ≤ e ∧ e ≤ (T.1.length : Int))) : eb_T mX10_see [.ref 67, .int (eb_I e), .int (eb_I (if x then 1 else 0))] n h (eb_G (some (.int (eb_I (-1000000001)))) n (fun h' => MR h' T ty fa past seed i0 i1 sees book ∧ L67 h h')) := by
  obtain ⟨cc, HR⟩ := HR
  obtain ⟨H_this, K, ⟨sf, H_this_st, hm⟩, ⟨pf, H_this_past, hp⟩, ⟨tf, H_this_typed, htf⟩, ⟨⟨ns, H_this_newSizes⟩, nl, H_this_newLetters⟩, ⟨⟨wd, H_this_wide⟩, HM, ⟨be, H_this_begins⟩, wi, H_this_with⟩, ⟨se, H_this_seen, hse⟩, ⟨bo, H_this_book, hbo⟩, ⟨⟨bb, H_this_beginsBy⟩, ib, H_this_isBy⟩, imf, kp, H_this_images, H_this_isKept, hi0, hi1⟩ := id HR
  obtain ⟨b1, b2, b3, b4, b5, b6, b7, b8, b9, b10, b11⟩ := id HR
  obtain ⟨k2, k3, k5, k6, k19, k21⟩ := K
  obtain ⟨HT, hty, hfa, hpo, hsd, hg0, hg1, hsu, hbk⟩ := id HO
  have hN : T.1.length ≤ 40 := HT.1.1
  obtain ⟨m0, m1, m2, m3, m4, m5⟩ := id hm
  have e0 : sf (0 : Int).toNat = (T.1.length : Int) := hm.1
  refine eb_T.of (by decide +kernel) (Nat.le_of_ble_eq_true rfl) ?_
  show eb_V _ _ 0 [.ref 67, .int (eb_I e), .int (eb_I (if x then 1 else 0))] [] (n, 0, 0) h _
  refine V_aload_n eX10_see_0 rfl rfl ?_
  refine V_iload_n eX10_see_1 rfl rfl ?_
  refine V_cvi eX10_see_2 (c_X10_isEnd (n := n) H_this H_this_st hm hN he) H_this rfl rfl (Nat.le_of_ble_eq_true rfl) ⟨rfl, rfl⟩ ⟨Nat.zero_le _, Nat.zero_le _⟩ ?_
  rw [if_neg hc]
  refine V_if_ne (tgt := 11) eX10_see_5 rfl (by omega) (fun c_5 => ?_) (fun c_5 => ?_)
  · exact absurd rfl c_5
  · refine V_ldc (a := -1000000001) eX10_see_8 wd_841 (by decide) ?_
    exact V_iret eX10_see_10 ⟨Nat.zero_le _, Nat.zero_le _⟩ rfl (rfl) (⟨rfl, rfl, ⟨cc, HR⟩, fun _ _ => rfl⟩)
theorem x10_see_ok {e : Nat} {x : Bool} (HR : MR h T ty fa past seed i0 i1 sees book) (HO : SOK T ty fa past seed i0 i1 sees book) (hc : e ≤ T.1.length) : eb_T mX10_see [.ref 67, .int (eb_I (e : Int)), .int (eb_I (if x then 1 else 0))] n h (eb_G (some (.int (eb_I (if 6 ≤ sees.length then -1000000004 else (sees.length : Int) + 1)))) n (fun h' => MR h' T ty fa past seed i0 i1 (if 6 ≤ sees.length then sees else sees ++ [(e, x)]) book ∧ L67 h h')) := by
  obtain ⟨cc, HR⟩ := HR
  obtain ⟨H_this, K, ⟨sf, H_this_st, hm⟩, ⟨pf, H_this_past, hp⟩, ⟨tf, H_this_typed, htf⟩, ⟨⟨ns, H_this_newSizes⟩, nl, H_this_newLetters⟩, ⟨⟨wd, H_this_wide⟩, HM, ⟨be, H_this_begins⟩, wi, H_this_with⟩, ⟨se, H_this_seen, hse⟩, ⟨bo, H_this_book, hbo⟩, ⟨⟨bb, H_this_beginsBy⟩, ib, H_this_isBy⟩, imf, kp, H_this_images, H_this_isKept, hi0, hi1⟩ := id HR
  obtain ⟨b1, b2, b3, b4, b5, b6, b7, b8, b9, b10, b11⟩ := id HR
  obtain ⟨k2, k3, k5, k6, k19, k21⟩ := K
  obtain ⟨HT, hty, hfa, hpo, hsd, hg0, hg1, hsu, hbk⟩ := id HO
  have hN : T.1.length ≤ 40 := HT.1.1
  obtain ⟨m0, m1, m2, m3, m4, m5⟩ := id hm
  have e0 : sf (0 : Int).toNat = (T.1.length : Int) := hm.1
  refine eb_T.of (by decide +kernel) (Nat.le_of_ble_eq_true rfl) ?_
  show eb_V _ _ 0 [.ref 67, .int (eb_I (e : Int)), .int (eb_I (if x then 1 else 0))] [] (n, 0, 0) h _
  have hs6 := hsu.1
  by_cases y : 6 ≤ sees.length
  · simp only [if_pos y]
    refine V_aload_n eX10_see_0 rfl rfl ?_
    refine V_iload_n eX10_see_1 rfl rfl ?_
    refine V_cvi eX10_see_2 (c_X10_isEnd (n := n) H_this H_this_st hm hN (by omega)) H_this rfl rfl (Nat.le_of_ble_eq_true rfl) ⟨rfl, rfl⟩ ⟨Nat.zero_le _, Nat.zero_le _⟩ ?_
    rw [if_pos (show (0 : Int) ≤ (e : Int) ∧ (e : Int) ≤ (T.1.length : Int) by omega)]
    refine V_if_ne (tgt := 11) eX10_see_5 rfl (by omega) (fun c_5 => ?_) (fun c_5 => ?_)
    · refine V_aload_n eX10_see_11 rfl rfl ?_
      refine V_getf eX10_see_12 H_this rfl ?_
      rw [k19]
      refine V_bipush eX10_see_15 (by decide) ?_
      refine V_icmp_ne (tgt := 23) eX10_see_17 rfl (by omega) (fun c_17 => ?_) (fun c_17 => ?_)
      · exact absurd (by omega) c_17
      · refine V_ldc (a := -1000000004) eX10_see_20 wd_802 (by decide) ?_
        exact V_iret eX10_see_22 ⟨Nat.zero_le _, Nat.zero_le _⟩ rfl (rfl) (⟨rfl, rfl, ⟨cc, HR⟩, fun _ _ => rfl⟩)
    · exact absurd c_5 (by decide)
  · simp only [if_neg y]
    have n1 : ((2 : Int) * (sees.length : Int)).toNat = 2 * sees.length := by omega
    have n2 : ((2 : Int) * (sees.length : Int) + 1).toNat = 2 * sees.length + 1 := by omega
    cases x
    · simp only [Bool.false_eq_true, if_false]
      refine V_aload_n eX10_see_0 rfl rfl ?_
      refine V_iload_n eX10_see_1 rfl rfl ?_
      refine V_cvi eX10_see_2 (c_X10_isEnd (n := n) H_this H_this_st hm hN (by omega)) H_this rfl rfl (Nat.le_of_ble_eq_true rfl) ⟨rfl, rfl⟩ ⟨Nat.zero_le _, Nat.zero_le _⟩ ?_
      rw [if_pos (show (0 : Int) ≤ (e : Int) ∧ (e : Int) ≤ (T.1.length : Int) by omega)]
      refine V_if_ne (tgt := 11) eX10_see_5 rfl (by omega) (fun c_5 => ?_) (fun c_5 => ?_)
      · refine V_aload_n eX10_see_11 rfl rfl ?_
        refine V_getf eX10_see_12 H_this rfl ?_
        rw [k19]
        refine V_bipush eX10_see_15 (by decide) ?_
        refine V_icmp_ne (tgt := 23) eX10_see_17 rfl (by omega) (fun c_17 => ?_) (fun c_17 => ?_)
        · refine V_aload_n eX10_see_23 rfl rfl ?_
          refine V_getf eX10_see_24 H_this rfl ?_
          refine V_iconst eX10_see_27 ?_
          refine V_aload_n eX10_see_28 rfl rfl ?_
          refine V_getf eX10_see_29 H_this rfl ?_
          rw [k19]
          refine V_imul eX10_see_32 ?_
          refine V_iload_n eX10_see_33 rfl rfl ?_
          refine V_iast eX10_see_34 H_this_seen (by omega) ?_
          rw [n1]
          refine V_aload_n eX10_see_35 rfl rfl ?_
          refine V_getf eX10_see_36 (eb_up_n (by omega) H_this) rfl ?_
          refine V_iconst eX10_see_39 ?_
          refine V_aload_n eX10_see_40 rfl rfl ?_
          refine V_getf eX10_see_41 (eb_up_n (by omega) H_this) rfl ?_
          rw [k19]
          refine V_imul eX10_see_44 ?_
          refine V_iconst eX10_see_45 ?_
          refine V_iadd eX10_see_46 ?_
          refine V_iload_n eX10_see_47 rfl rfl ?_
          refine V_if_eq (tgt := 55) eX10_see_48 rfl (by omega) (fun c_48 => ?_) (fun c_48 => ?_)
          · refine V_iconst eX10_see_55 ?_
            refine V_iast eX10_see_56 eb_up_s (by omega) ?_
            rw [n2]
            refine V_aload_n eX10_see_57 rfl rfl ?_
            refine V_dup eX10_see_58 rfl ?_
            refine V_getf eX10_see_59 (eb_up_n (by omega) (eb_up_n (by omega) H_this)) rfl ?_
            rw [k19]
            refine V_iconst eX10_see_62 ?_
            refine V_iadd eX10_see_63 ?_
            refine V_putf eX10_see_64 (eb_up_n (by omega) (eb_up_n (by omega) H_this)) eb_fitI (eb_sS (eb_sS (eb_sS (eb_sS (eb_sS (eb_sS (eb_sS (eb_sS (eb_sS (eb_sS (eb_sS (eb_sS (eb_sS (eb_sS (eb_sS (eb_sS (eb_sS (eb_sS (eb_sS eb_s0))))))))))))))))))) (Nat.le_of_ble_eq_true rfl) ?_
            show eb_V _ _ 67 _ _ _ (eb_up _ 67 (mo (eb_set cc 19 ((sees.length : Int) + 1)))) _
            refine V_aload_n eX10_see_67 rfl rfl ?_
            refine V_getf eX10_see_68 eb_up_s rfl ?_
            show eb_V _ _ 71 _ [.int (eb_I ((sees.length : Int) + 1))] _ _ _
            exact V_iret eX10_see_71 ⟨Nat.zero_le _, Nat.zero_le _⟩ rfl (rfl) (⟨rfl, rfl, ⟨_, eb_up_s, ⟨k2, k3, k5, k6, by show (sees.length : Int) + 1 = _; simp, k21⟩, b3.kept (eb_up_n (by omega) (eb_up_n (by omega) (eb_up_n (by omega) rfl))), b4.kept (eb_up_n (by omega) (eb_up_n (by omega) (eb_up_n (by omega) rfl))), b5.kept (eb_up_n (by omega) (eb_up_n (by omega) (eb_up_n (by omega) rfl))), b6.kept (eb_up_n (by omega) (eb_up_n (by omega) (eb_up_n (by omega) rfl))) (eb_up_n (by omega) (eb_up_n (by omega) (eb_up_n (by omega) rfl))), b7.kept (fun k x y => eb_up_n (by omega) (eb_up_n (by omega) (eb_up_n (by omega) rfl))), ⟨_, eb_up_n (by omega) eb_up_s, (fun k hk => by
                by_cases y2 : k < sees.length
                · rw [List.getElem_append_left y2]
                  unfold eb_set
                  rw [if_neg (by omega), if_neg (by omega), if_neg (by omega), if_neg (by omega)]
                  exact hse k y2
                · have : k = sees.length := by simp at hk; omega
                  subst this
                  unfold eb_set
                  rw [if_neg (by omega), if_pos rfl, if_pos rfl]
                  simp)⟩, b9.kept (eb_up_n (by omega) (eb_up_n (by omega) (eb_up_n (by omega) rfl))), b10.kept (eb_up_n (by omega) (eb_up_n (by omega) (eb_up_n (by omega) rfl))) (eb_up_n (by omega) (eb_up_n (by omega) (eb_up_n (by omega) rfl))), b11.kept (eb_up_n (by omega) (eb_up_n (by omega) (eb_up_n (by omega) rfl))) (eb_up_n (by omega) (eb_up_n (by omega) (eb_up_n (by omega) rfl)))⟩, fun k z => eb_up_n (by omega) (eb_up_n (by omega) (eb_up_n (by omega) rfl))⟩)
          · exact absurd rfl c_48
        · exact absurd c_17 (by omega)
      · exact absurd c_5 (by decide)
    · simp only [if_true]
      refine V_aload_n eX10_see_0 rfl rfl ?_
      refine V_iload_n eX10_see_1 rfl rfl ?_
      refine V_cvi eX10_see_2 (c_X10_isEnd (n := n) H_this H_this_st hm hN (by omega)) H_this rfl rfl (Nat.le_of_ble_eq_true rfl) ⟨rfl, rfl⟩ ⟨Nat.zero_le _, Nat.zero_le _⟩ ?_
      rw [if_pos (show (0 : Int) ≤ (e : Int) ∧ (e : Int) ≤ (T.1.length : Int) by omega)]
      refine V_if_ne (tgt := 11) eX10_see_5 rfl (by omega) (fun c_5 => ?_) (fun c_5 => ?_)
      · refine V_aload_n eX10_see_11 rfl rfl ?_
        refine V_getf eX10_see_12 H_this rfl ?_
        rw [k19]
        refine V_bipush eX10_see_15 (by decide) ?_
        refine V_icmp_ne (tgt := 23) eX10_see_17 rfl (by omega) (fun c_17 => ?_) (fun c_17 => ?_)
        · refine V_aload_n eX10_see_23 rfl rfl ?_
          refine V_getf eX10_see_24 H_this rfl ?_
          refine V_iconst eX10_see_27 ?_
          refine V_aload_n eX10_see_28 rfl rfl ?_
          refine V_getf eX10_see_29 H_this rfl ?_
          rw [k19]
          refine V_imul eX10_see_32 ?_
          refine V_iload_n eX10_see_33 rfl rfl ?_
          refine V_iast eX10_see_34 H_this_seen (by omega) ?_
          rw [n1]
          refine V_aload_n eX10_see_35 rfl rfl ?_
          refine V_getf eX10_see_36 (eb_up_n (by omega) H_this) rfl ?_
          refine V_iconst eX10_see_39 ?_
          refine V_aload_n eX10_see_40 rfl rfl ?_
          refine V_getf eX10_see_41 (eb_up_n (by omega) H_this) rfl ?_
          rw [k19]
          refine V_imul eX10_see_44 ?_
          refine V_iconst eX10_see_45 ?_
          refine V_iadd eX10_see_46 ?_
          refine V_iload_n eX10_see_47 rfl rfl ?_
          refine V_if_eq (tgt := 55) eX10_see_48 rfl (by omega) (fun c_48 => ?_) (fun c_48 => ?_)
          · exact absurd c_48 (by decide)
          · refine V_iconst eX10_see_51 ?_
            refine V_goto (tgt := 56) eX10_see_52 rfl ?_
            refine V_iast eX10_see_56 eb_up_s (by omega) ?_
            rw [n2]
            refine V_aload_n eX10_see_57 rfl rfl ?_
            refine V_dup eX10_see_58 rfl ?_
            refine V_getf eX10_see_59 (eb_up_n (by omega) (eb_up_n (by omega) H_this)) rfl ?_
            rw [k19]
            refine V_iconst eX10_see_62 ?_
            refine V_iadd eX10_see_63 ?_
            refine V_putf eX10_see_64 (eb_up_n (by omega) (eb_up_n (by omega) H_this)) eb_fitI (eb_sS (eb_sS (eb_sS (eb_sS (eb_sS (eb_sS (eb_sS (eb_sS (eb_sS (eb_sS (eb_sS (eb_sS (eb_sS (eb_sS (eb_sS (eb_sS (eb_sS (eb_sS (eb_sS eb_s0))))))))))))))))))) (Nat.le_of_ble_eq_true rfl) ?_
            show eb_V _ _ 67 _ _ _ (eb_up _ 67 (mo (eb_set cc 19 ((sees.length : Int) + 1)))) _
            refine V_aload_n eX10_see_67 rfl rfl ?_
            refine V_getf eX10_see_68 eb_up_s rfl ?_
            show eb_V _ _ 71 _ [.int (eb_I ((sees.length : Int) + 1))] _ _ _
            exact V_iret eX10_see_71 ⟨Nat.zero_le _, Nat.zero_le _⟩ rfl (rfl) (⟨rfl, rfl, ⟨_, eb_up_s, ⟨k2, k3, k5, k6, by show (sees.length : Int) + 1 = _; simp, k21⟩, b3.kept (eb_up_n (by omega) (eb_up_n (by omega) (eb_up_n (by omega) rfl))), b4.kept (eb_up_n (by omega) (eb_up_n (by omega) (eb_up_n (by omega) rfl))), b5.kept (eb_up_n (by omega) (eb_up_n (by omega) (eb_up_n (by omega) rfl))), b6.kept (eb_up_n (by omega) (eb_up_n (by omega) (eb_up_n (by omega) rfl))) (eb_up_n (by omega) (eb_up_n (by omega) (eb_up_n (by omega) rfl))), b7.kept (fun k x y => eb_up_n (by omega) (eb_up_n (by omega) (eb_up_n (by omega) rfl))), ⟨_, eb_up_n (by omega) eb_up_s, (fun k hk => by
                by_cases y2 : k < sees.length
                · rw [List.getElem_append_left y2]
                  unfold eb_set
                  rw [if_neg (by omega), if_neg (by omega), if_neg (by omega), if_neg (by omega)]
                  exact hse k y2
                · have : k = sees.length := by simp at hk; omega
                  subst this
                  unfold eb_set
                  rw [if_neg (by omega), if_pos rfl, if_pos rfl]
                  simp)⟩, b9.kept (eb_up_n (by omega) (eb_up_n (by omega) (eb_up_n (by omega) rfl))), b10.kept (eb_up_n (by omega) (eb_up_n (by omega) (eb_up_n (by omega) rfl))) (eb_up_n (by omega) (eb_up_n (by omega) (eb_up_n (by omega) rfl))), b11.kept (eb_up_n (by omega) (eb_up_n (by omega) (eb_up_n (by omega) rfl))) (eb_up_n (by omega) (eb_up_n (by omega) (eb_up_n (by omega) rfl)))⟩, fun k z => eb_up_n (by omega) (eb_up_n (by omega) (eb_up_n (by omega) rfl))⟩)
        · exact absurd c_17 (by omega)
      · exact absurd c_5 (by decide)
theorem x10_write_unk {k e : Int} (HR : MR h T ty fa past seed i0 i1 sees book) (HO : SOK T ty fa past seed i0 i1 sees book) (hk : -2147483648 ≤ k ∧ k ≤ 2147483647) (he : -2147483648 ≤ e ∧ e ≤ 2147483647) (hc : ¬ (-1 ≤ e ∧ e ≤ (T.1.length : Int))) : eb_T mX10_write [.ref 67, .int (eb_I k), .int (eb_I e)] n h (eb_G (some (.int (eb_I (-1000000001)))) n (fun h' => MR h' T ty fa past seed i0 i1 sees book ∧ L67 h h')) := by
  obtain ⟨cc, HR⟩ := HR
  obtain ⟨H_this, K, ⟨sf, H_this_st, hm⟩, ⟨pf, H_this_past, hp⟩, ⟨tf, H_this_typed, htf⟩, ⟨⟨ns, H_this_newSizes⟩, nl, H_this_newLetters⟩, ⟨⟨wd, H_this_wide⟩, HM, ⟨be, H_this_begins⟩, wi, H_this_with⟩, ⟨se, H_this_seen, hse⟩, ⟨bo, H_this_book, hbo⟩, ⟨⟨bb, H_this_beginsBy⟩, ib, H_this_isBy⟩, imf, kp, H_this_images, H_this_isKept, hi0, hi1⟩ := id HR
  obtain ⟨b1, b2, b3, b4, b5, b6, b7, b8, b9, b10, b11⟩ := id HR
  obtain ⟨k2, k3, k5, k6, k19, k21⟩ := K
  obtain ⟨HT, hty, hfa, hpo, hsd, hg0, hg1, hsu, hbk⟩ := id HO
  have hN : T.1.length ≤ 40 := HT.1.1
  obtain ⟨m0, m1, m2, m3, m4, m5⟩ := id hm
  have e0 : sf (0 : Int).toNat = (T.1.length : Int) := hm.1
  refine eb_T.of (by decide +kernel) (Nat.le_of_ble_eq_true rfl) ?_
  show eb_V _ _ 0 [.ref 67, .int (eb_I k), .int (eb_I e)] [] (n, 0, 0) h _
  have y0 : ¬ e = -1 := by omega
  refine V_iload_n eX10_write_0 rfl rfl ?_
  refine V_iconst eX10_write_1 ?_
  refine V_icmp_eq (tgt := 16) eX10_write_2 rfl (by omega) (fun c_2 => ?_) (fun c_2 => ?_)
  · exact absurd c_2 y0
  · refine V_aload_n eX10_write_5 rfl rfl ?_
    refine V_iload_n eX10_write_6 rfl rfl ?_
    refine V_cvi eX10_write_7 (c_X10_isEnd (n := n) H_this H_this_st hm hN he) H_this rfl rfl (Nat.le_of_ble_eq_true rfl) ⟨rfl, rfl⟩ ⟨Nat.zero_le _, Nat.zero_le _⟩ ?_
    rw [if_neg (by omega)]
    refine V_if_ne (tgt := 16) eX10_write_10 rfl (by omega) (fun c_10 => ?_) (fun c_10 => ?_)
    · exact absurd rfl c_10
    · refine V_ldc (a := -1000000001) eX10_write_13 wd_841 (by decide) ?_
      exact V_iret eX10_write_15 ⟨Nat.zero_le _, Nat.zero_le _⟩ rfl (rfl) (⟨rfl, rfl, ⟨cc, HR⟩, fun _ _ => rfl⟩)
theorem x10_write_out {k e : Int} (HR : MR h T ty fa past seed i0 i1 sees book) (HO : SOK T ty fa past seed i0 i1 sees book) (hk : -2147483648 ≤ k ∧ k ≤ 2147483647) (hc : -1 ≤ e ∧ e ≤ (T.1.length : Int)) (hc2 : ¬ (0 ≤ k ∧ k < 40)) : eb_T mX10_write [.ref 67, .int (eb_I k), .int (eb_I e)] n h (eb_G (some (.int (eb_I (-1000000002)))) n (fun h' => MR h' T ty fa past seed i0 i1 sees book ∧ L67 h h')) := by
  obtain ⟨cc, HR⟩ := HR
  obtain ⟨H_this, K, ⟨sf, H_this_st, hm⟩, ⟨pf, H_this_past, hp⟩, ⟨tf, H_this_typed, htf⟩, ⟨⟨ns, H_this_newSizes⟩, nl, H_this_newLetters⟩, ⟨⟨wd, H_this_wide⟩, HM, ⟨be, H_this_begins⟩, wi, H_this_with⟩, ⟨se, H_this_seen, hse⟩, ⟨bo, H_this_book, hbo⟩, ⟨⟨bb, H_this_beginsBy⟩, ib, H_this_isBy⟩, imf, kp, H_this_images, H_this_isKept, hi0, hi1⟩ := id HR
  obtain ⟨b1, b2, b3, b4, b5, b6, b7, b8, b9, b10, b11⟩ := id HR
  obtain ⟨k2, k3, k5, k6, k19, k21⟩ := K
  obtain ⟨HT, hty, hfa, hpo, hsd, hg0, hg1, hsu, hbk⟩ := id HO
  have hN : T.1.length ≤ 40 := HT.1.1
  obtain ⟨m0, m1, m2, m3, m4, m5⟩ := id hm
  have e0 : sf (0 : Int).toNat = (T.1.length : Int) := hm.1
  refine eb_T.of (by decide +kernel) (Nat.le_of_ble_eq_true rfl) ?_
  show eb_V _ _ 0 [.ref 67, .int (eb_I k), .int (eb_I e)] [] (n, 0, 0) h _
  by_cases y0 : e = -1
  · refine V_iload_n eX10_write_0 rfl rfl ?_
    refine V_iconst eX10_write_1 ?_
    refine V_icmp_eq (tgt := 16) eX10_write_2 rfl (by omega) (fun c_2 => ?_) (fun c_2 => ?_)
    · refine V_iload_n eX10_write_16 rfl rfl ?_
      refine V_i2lI eX10_write_17 (by omega) ?_
      refine V_lconst (b := 0) eX10_write_18 (by decide) ?_
      refine V_ldc2 (a := 39) eX10_write_19 wd_1018 (by decide) ?_
      refine V_csi eX10_write_22 (c_X10_in (by omega)) rfl rfl (Nat.le_of_ble_eq_true rfl) ⟨rfl, rfl⟩ ⟨Nat.zero_le _, Nat.zero_le _⟩ ?_
      rw [if_neg (by omega)]
      refine V_if_ne (tgt := 31) eX10_write_25 rfl (by omega) (fun c_25 => ?_) (fun c_25 => ?_)
      · exact absurd rfl c_25
      · refine V_ldc (a := -1000000002) eX10_write_28 wd_801 (by decide) ?_
        exact V_iret eX10_write_30 ⟨Nat.zero_le _, Nat.zero_le _⟩ rfl (rfl) (⟨rfl, rfl, ⟨cc, HR⟩, fun _ _ => rfl⟩)
    · exact absurd y0 c_2
  · refine V_iload_n eX10_write_0 rfl rfl ?_
    refine V_iconst eX10_write_1 ?_
    refine V_icmp_eq (tgt := 16) eX10_write_2 rfl (by omega) (fun c_2 => ?_) (fun c_2 => ?_)
    · exact absurd c_2 y0
    · refine V_aload_n eX10_write_5 rfl rfl ?_
      refine V_iload_n eX10_write_6 rfl rfl ?_
      refine V_cvi eX10_write_7 (c_X10_isEnd (n := n) H_this H_this_st hm hN (by omega)) H_this rfl rfl (Nat.le_of_ble_eq_true rfl) ⟨rfl, rfl⟩ ⟨Nat.zero_le _, Nat.zero_le _⟩ ?_
      rw [if_pos (by omega)]
      refine V_if_ne (tgt := 16) eX10_write_10 rfl (by omega) (fun c_10 => ?_) (fun c_10 => ?_)
      · refine V_iload_n eX10_write_16 rfl rfl ?_
        refine V_i2lI eX10_write_17 (by omega) ?_
        refine V_lconst (b := 0) eX10_write_18 (by decide) ?_
        refine V_ldc2 (a := 39) eX10_write_19 wd_1018 (by decide) ?_
        refine V_csi eX10_write_22 (c_X10_in (by omega)) rfl rfl (Nat.le_of_ble_eq_true rfl) ⟨rfl, rfl⟩ ⟨Nat.zero_le _, Nat.zero_le _⟩ ?_
        rw [if_neg (by omega)]
        refine V_if_ne (tgt := 31) eX10_write_25 rfl (by omega) (fun c_25 => ?_) (fun c_25 => ?_)
        · exact absurd rfl c_25
        · refine V_ldc (a := -1000000002) eX10_write_28 wd_801 (by decide) ?_
          exact V_iret eX10_write_30 ⟨Nat.zero_le _, Nat.zero_le _⟩ rfl (rfl) (⟨rfl, rfl, ⟨cc, HR⟩, fun _ _ => rfl⟩)
      · exact absurd c_10 (by decide)
theorem x10_write_ok {k e : Int} (HR : MR h T ty fa past seed i0 i1 sees book) (HO : SOK T ty fa past seed i0 i1 sees book) (hc : -1 ≤ e ∧ e ≤ (T.1.length : Int)) (hc2 : 0 ≤ k ∧ k < 40) : eb_T mX10_write [.ref 67, .int (eb_I k), .int (eb_I e)] n h (eb_G (some (.int (eb_I (if 20 ≤ book.length then -1000000004 else (book.length : Int) + 1)))) n (fun h' => MR h' T ty fa past seed i0 i1 sees (if 20 ≤ book.length then book else book ++ [(k, e)]) ∧ L67 h h')) := by
  obtain ⟨cc, HR⟩ := HR
  obtain ⟨H_this, K, ⟨sf, H_this_st, hm⟩, ⟨pf, H_this_past, hp⟩, ⟨tf, H_this_typed, htf⟩, ⟨⟨ns, H_this_newSizes⟩, nl, H_this_newLetters⟩, ⟨⟨wd, H_this_wide⟩, HM, ⟨be, H_this_begins⟩, wi, H_this_with⟩, ⟨se, H_this_seen, hse⟩, ⟨bo, H_this_book, hbo⟩, ⟨⟨bb, H_this_beginsBy⟩, ib, H_this_isBy⟩, imf, kp, H_this_images, H_this_isKept, hi0, hi1⟩ := id HR
  obtain ⟨b1, b2, b3, b4, b5, b6, b7, b8, b9, b10, b11⟩ := id HR
  obtain ⟨k2, k3, k5, k6, k19, k21⟩ := K
  obtain ⟨HT, hty, hfa, hpo, hsd, hg0, hg1, hsu, hbk⟩ := id HO
  have hN : T.1.length ≤ 40 := HT.1.1
  obtain ⟨m0, m1, m2, m3, m4, m5⟩ := id hm
  have e0 : sf (0 : Int).toNat = (T.1.length : Int) := hm.1
  refine eb_T.of (by decide +kernel) (Nat.le_of_ble_eq_true rfl) ?_
  show eb_V _ _ 0 [.ref 67, .int (eb_I k), .int (eb_I e)] [] (n, 0, 0) h _
  have hb20 := hbk.1
  by_cases y : 20 ≤ book.length
  · simp only [if_pos y]
    by_cases y0 : e = -1
    · refine V_iload_n eX10_write_0 rfl rfl ?_
      refine V_iconst eX10_write_1 ?_
      refine V_icmp_eq (tgt := 16) eX10_write_2 rfl (by omega) (fun c_2 => ?_) (fun c_2 => ?_)
      · refine V_iload_n eX10_write_16 rfl rfl ?_
        refine V_i2lI eX10_write_17 (by omega) ?_
        refine V_lconst (b := 0) eX10_write_18 (by decide) ?_
        refine V_ldc2 (a := 39) eX10_write_19 wd_1018 (by decide) ?_
        refine V_csi eX10_write_22 (c_X10_in (by omega)) rfl rfl (Nat.le_of_ble_eq_true rfl) ⟨rfl, rfl⟩ ⟨Nat.zero_le _, Nat.zero_le _⟩ ?_
        rw [if_pos (by omega)]
        refine V_if_ne (tgt := 31) eX10_write_25 rfl (by omega) (fun c_25 => ?_) (fun c_25 => ?_)
        · refine V_aload_n eX10_write_31 rfl rfl ?_
          refine V_getf eX10_write_32 H_this rfl ?_
          rw [k21]
          refine V_bipush eX10_write_35 (by decide) ?_
          refine V_icmp_ne (tgt := 43) eX10_write_37 rfl (by omega) (fun c_37 => ?_) (fun c_37 => ?_)
          · exact absurd (by omega) c_37
          · refine V_ldc (a := -1000000004) eX10_write_40 wd_802 (by decide) ?_
            exact V_iret eX10_write_42 ⟨Nat.zero_le _, Nat.zero_le _⟩ rfl (rfl) (⟨rfl, rfl, ⟨cc, HR⟩, fun _ _ => rfl⟩)
        · exact absurd c_25 (by decide)
      · exact absurd y0 c_2
    · refine V_iload_n eX10_write_0 rfl rfl ?_
      refine V_iconst eX10_write_1 ?_
      refine V_icmp_eq (tgt := 16) eX10_write_2 rfl (by omega) (fun c_2 => ?_) (fun c_2 => ?_)
      · exact absurd c_2 y0
      · refine V_aload_n eX10_write_5 rfl rfl ?_
        refine V_iload_n eX10_write_6 rfl rfl ?_
        refine V_cvi eX10_write_7 (c_X10_isEnd (n := n) H_this H_this_st hm hN (by omega)) H_this rfl rfl (Nat.le_of_ble_eq_true rfl) ⟨rfl, rfl⟩ ⟨Nat.zero_le _, Nat.zero_le _⟩ ?_
        rw [if_pos (by omega)]
        refine V_if_ne (tgt := 16) eX10_write_10 rfl (by omega) (fun c_10 => ?_) (fun c_10 => ?_)
        · refine V_iload_n eX10_write_16 rfl rfl ?_
          refine V_i2lI eX10_write_17 (by omega) ?_
          refine V_lconst (b := 0) eX10_write_18 (by decide) ?_
          refine V_ldc2 (a := 39) eX10_write_19 wd_1018 (by decide) ?_
          refine V_csi eX10_write_22 (c_X10_in (by omega)) rfl rfl (Nat.le_of_ble_eq_true rfl) ⟨rfl, rfl⟩ ⟨Nat.zero_le _, Nat.zero_le _⟩ ?_
          rw [if_pos (by omega)]
          refine V_if_ne (tgt := 31) eX10_write_25 rfl (by omega) (fun c_25 => ?_) (fun c_25 => ?_)
          · refine V_aload_n eX10_write_31 rfl rfl ?_
            refine V_getf eX10_write_32 H_this rfl ?_
            rw [k21]
            refine V_bipush eX10_write_35 (by decide) ?_
            refine V_icmp_ne (tgt := 43) eX10_write_37 rfl (by omega) (fun c_37 => ?_) (fun c_37 => ?_)
            · exact absurd (by omega) c_37
            · refine V_ldc (a := -1000000004) eX10_write_40 wd_802 (by decide) ?_
              exact V_iret eX10_write_42 ⟨Nat.zero_le _, Nat.zero_le _⟩ rfl (rfl) (⟨rfl, rfl, ⟨cc, HR⟩, fun _ _ => rfl⟩)
          · exact absurd c_25 (by decide)
        · exact absurd c_10 (by decide)
  · simp only [if_neg y]
    have n1 : ((2 : Int) * (book.length : Int)).toNat = 2 * book.length := by omega
    have n2 : ((2 : Int) * (book.length : Int) + 1).toNat = 2 * book.length + 1 := by omega
    by_cases y0 : e = -1
    · refine V_iload_n eX10_write_0 rfl rfl ?_
      refine V_iconst eX10_write_1 ?_
      refine V_icmp_eq (tgt := 16) eX10_write_2 rfl (by omega) (fun c_2 => ?_) (fun c_2 => ?_)
      · refine V_iload_n eX10_write_16 rfl rfl ?_
        refine V_i2lI eX10_write_17 (by omega) ?_
        refine V_lconst (b := 0) eX10_write_18 (by decide) ?_
        refine V_ldc2 (a := 39) eX10_write_19 wd_1018 (by decide) ?_
        refine V_csi eX10_write_22 (c_X10_in (by omega)) rfl rfl (Nat.le_of_ble_eq_true rfl) ⟨rfl, rfl⟩ ⟨Nat.zero_le _, Nat.zero_le _⟩ ?_
        rw [if_pos (by omega)]
        refine V_if_ne (tgt := 31) eX10_write_25 rfl (by omega) (fun c_25 => ?_) (fun c_25 => ?_)
        · refine V_aload_n eX10_write_31 rfl rfl ?_
          refine V_getf eX10_write_32 H_this rfl ?_
          rw [k21]
          refine V_bipush eX10_write_35 (by decide) ?_
          refine V_icmp_ne (tgt := 43) eX10_write_37 rfl (by omega) (fun c_37 => ?_) (fun c_37 => ?_)
          · refine V_aload_n eX10_write_43 rfl rfl ?_
            refine V_getf eX10_write_44 H_this rfl ?_
            refine V_iconst eX10_write_47 ?_
            refine V_aload_n eX10_write_48 rfl rfl ?_
            refine V_getf eX10_write_49 H_this rfl ?_
            rw [k21]
            refine V_imul eX10_write_52 ?_
            refine V_iload_n eX10_write_53 rfl rfl ?_
            refine V_iast eX10_write_54 H_this_book (by omega) ?_
            rw [n1]
            refine V_aload_n eX10_write_55 rfl rfl ?_
            refine V_getf eX10_write_56 (eb_up_n (by omega) H_this) rfl ?_
            refine V_iconst eX10_write_59 ?_
            refine V_aload_n eX10_write_60 rfl rfl ?_
            refine V_getf eX10_write_61 (eb_up_n (by omega) H_this) rfl ?_
            rw [k21]
            refine V_imul eX10_write_64 ?_
            refine V_iconst eX10_write_65 ?_
            refine V_iadd eX10_write_66 ?_
            refine V_iload_n eX10_write_67 rfl rfl ?_
            refine V_iast eX10_write_68 eb_up_s (by omega) ?_
            rw [n2]
            refine V_aload_n eX10_write_69 rfl rfl ?_
            refine V_dup eX10_write_70 rfl ?_
            refine V_getf eX10_write_71 (eb_up_n (by omega) (eb_up_n (by omega) H_this)) rfl ?_
            rw [k21]
            refine V_iconst eX10_write_74 ?_
            refine V_iadd eX10_write_75 ?_
            refine V_putf eX10_write_76 (eb_up_n (by omega) (eb_up_n (by omega) H_this)) eb_fitI (eb_sS (eb_sS (eb_sS (eb_sS (eb_sS (eb_sS (eb_sS (eb_sS (eb_sS (eb_sS (eb_sS (eb_sS (eb_sS (eb_sS (eb_sS (eb_sS (eb_sS (eb_sS (eb_sS (eb_sS (eb_sS eb_s0))))))))))))))))))))) (Nat.le_of_ble_eq_true rfl) ?_
            show eb_V _ _ 79 _ _ _ (eb_up _ 67 (mo (eb_set cc 21 ((book.length : Int) + 1)))) _
            refine V_aload_n eX10_write_79 rfl rfl ?_
            refine V_getf eX10_write_80 eb_up_s rfl ?_
            show eb_V _ _ 83 _ [.int (eb_I ((book.length : Int) + 1))] _ _ _
            exact V_iret eX10_write_83 ⟨Nat.zero_le _, Nat.zero_le _⟩ rfl (rfl) (⟨rfl, rfl, ⟨_, eb_up_s, ⟨k2, k3, k5, k6, k19, by show (book.length : Int) + 1 = _; simp⟩, b3.kept (eb_up_n (by omega) (eb_up_n (by omega) (eb_up_n (by omega) rfl))), b4.kept (eb_up_n (by omega) (eb_up_n (by omega) (eb_up_n (by omega) rfl))), b5.kept (eb_up_n (by omega) (eb_up_n (by omega) (eb_up_n (by omega) rfl))), b6.kept (eb_up_n (by omega) (eb_up_n (by omega) (eb_up_n (by omega) rfl))) (eb_up_n (by omega) (eb_up_n (by omega) (eb_up_n (by omega) rfl))), b7.kept (fun k x y => eb_up_n (by omega) (eb_up_n (by omega) (eb_up_n (by omega) rfl))), b8.kept (eb_up_n (by omega) (eb_up_n (by omega) (eb_up_n (by omega) rfl))), ⟨_, eb_up_n (by omega) eb_up_s, (fun j hj => by
                by_cases y2 : j < book.length
                · rw [List.getElem_append_left y2]
                  unfold eb_set
                  rw [if_neg (by omega), if_neg (by omega), if_neg (by omega), if_neg (by omega)]
                  exact hbo j y2
                · have : j = book.length := by simp at hj; omega
                  subst this
                  unfold eb_set
                  rw [if_neg (by omega), if_pos rfl, if_pos rfl]
                  simp)⟩, b10.kept (eb_up_n (by omega) (eb_up_n (by omega) (eb_up_n (by omega) rfl))) (eb_up_n (by omega) (eb_up_n (by omega) (eb_up_n (by omega) rfl))), b11.kept (eb_up_n (by omega) (eb_up_n (by omega) (eb_up_n (by omega) rfl))) (eb_up_n (by omega) (eb_up_n (by omega) (eb_up_n (by omega) rfl)))⟩, fun k z => eb_up_n (by omega) (eb_up_n (by omega) (eb_up_n (by omega) rfl))⟩)
          · exact absurd c_37 (by omega)
        · exact absurd c_25 (by decide)
      · exact absurd y0 c_2
    · refine V_iload_n eX10_write_0 rfl rfl ?_
      refine V_iconst eX10_write_1 ?_
      refine V_icmp_eq (tgt := 16) eX10_write_2 rfl (by omega) (fun c_2 => ?_) (fun c_2 => ?_)
      · exact absurd c_2 y0
      · refine V_aload_n eX10_write_5 rfl rfl ?_
        refine V_iload_n eX10_write_6 rfl rfl ?_
        refine V_cvi eX10_write_7 (c_X10_isEnd (n := n) H_this H_this_st hm hN (by omega)) H_this rfl rfl (Nat.le_of_ble_eq_true rfl) ⟨rfl, rfl⟩ ⟨Nat.zero_le _, Nat.zero_le _⟩ ?_
        rw [if_pos (by omega)]
        refine V_if_ne (tgt := 16) eX10_write_10 rfl (by omega) (fun c_10 => ?_) (fun c_10 => ?_)
        · refine V_iload_n eX10_write_16 rfl rfl ?_
          refine V_i2lI eX10_write_17 (by omega) ?_
          refine V_lconst (b := 0) eX10_write_18 (by decide) ?_
          refine V_ldc2 (a := 39) eX10_write_19 wd_1018 (by decide) ?_
          refine V_csi eX10_write_22 (c_X10_in (by omega)) rfl rfl (Nat.le_of_ble_eq_true rfl) ⟨rfl, rfl⟩ ⟨Nat.zero_le _, Nat.zero_le _⟩ ?_
          rw [if_pos (by omega)]
          refine V_if_ne (tgt := 31) eX10_write_25 rfl (by omega) (fun c_25 => ?_) (fun c_25 => ?_)
          · refine V_aload_n eX10_write_31 rfl rfl ?_
            refine V_getf eX10_write_32 H_this rfl ?_
            rw [k21]
            refine V_bipush eX10_write_35 (by decide) ?_
            refine V_icmp_ne (tgt := 43) eX10_write_37 rfl (by omega) (fun c_37 => ?_) (fun c_37 => ?_)
            · refine V_aload_n eX10_write_43 rfl rfl ?_
              refine V_getf eX10_write_44 H_this rfl ?_
              refine V_iconst eX10_write_47 ?_
              refine V_aload_n eX10_write_48 rfl rfl ?_
              refine V_getf eX10_write_49 H_this rfl ?_
              rw [k21]
              refine V_imul eX10_write_52 ?_
              refine V_iload_n eX10_write_53 rfl rfl ?_
              refine V_iast eX10_write_54 H_this_book (by omega) ?_
              rw [n1]
              refine V_aload_n eX10_write_55 rfl rfl ?_
              refine V_getf eX10_write_56 (eb_up_n (by omega) H_this) rfl ?_
              refine V_iconst eX10_write_59 ?_
              refine V_aload_n eX10_write_60 rfl rfl ?_
              refine V_getf eX10_write_61 (eb_up_n (by omega) H_this) rfl ?_
              rw [k21]
              refine V_imul eX10_write_64 ?_
              refine V_iconst eX10_write_65 ?_
              refine V_iadd eX10_write_66 ?_
              refine V_iload_n eX10_write_67 rfl rfl ?_
              refine V_iast eX10_write_68 eb_up_s (by omega) ?_
              rw [n2]
              refine V_aload_n eX10_write_69 rfl rfl ?_
              refine V_dup eX10_write_70 rfl ?_
              refine V_getf eX10_write_71 (eb_up_n (by omega) (eb_up_n (by omega) H_this)) rfl ?_
              rw [k21]
              refine V_iconst eX10_write_74 ?_
              refine V_iadd eX10_write_75 ?_
              refine V_putf eX10_write_76 (eb_up_n (by omega) (eb_up_n (by omega) H_this)) eb_fitI (eb_sS (eb_sS (eb_sS (eb_sS (eb_sS (eb_sS (eb_sS (eb_sS (eb_sS (eb_sS (eb_sS (eb_sS (eb_sS (eb_sS (eb_sS (eb_sS (eb_sS (eb_sS (eb_sS (eb_sS (eb_sS eb_s0))))))))))))))))))))) (Nat.le_of_ble_eq_true rfl) ?_
              show eb_V _ _ 79 _ _ _ (eb_up _ 67 (mo (eb_set cc 21 ((book.length : Int) + 1)))) _
              refine V_aload_n eX10_write_79 rfl rfl ?_
              refine V_getf eX10_write_80 eb_up_s rfl ?_
              show eb_V _ _ 83 _ [.int (eb_I ((book.length : Int) + 1))] _ _ _
              exact V_iret eX10_write_83 ⟨Nat.zero_le _, Nat.zero_le _⟩ rfl (rfl) (⟨rfl, rfl, ⟨_, eb_up_s, ⟨k2, k3, k5, k6, k19, by show (book.length : Int) + 1 = _; simp⟩, b3.kept (eb_up_n (by omega) (eb_up_n (by omega) (eb_up_n (by omega) rfl))), b4.kept (eb_up_n (by omega) (eb_up_n (by omega) (eb_up_n (by omega) rfl))), b5.kept (eb_up_n (by omega) (eb_up_n (by omega) (eb_up_n (by omega) rfl))), b6.kept (eb_up_n (by omega) (eb_up_n (by omega) (eb_up_n (by omega) rfl))) (eb_up_n (by omega) (eb_up_n (by omega) (eb_up_n (by omega) rfl))), b7.kept (fun k x y => eb_up_n (by omega) (eb_up_n (by omega) (eb_up_n (by omega) rfl))), b8.kept (eb_up_n (by omega) (eb_up_n (by omega) (eb_up_n (by omega) rfl))), ⟨_, eb_up_n (by omega) eb_up_s, (fun j hj => by
                  by_cases y2 : j < book.length
                  · rw [List.getElem_append_left y2]
                    unfold eb_set
                    rw [if_neg (by omega), if_neg (by omega), if_neg (by omega), if_neg (by omega)]
                    exact hbo j y2
                  · have : j = book.length := by simp at hj; omega
                    subst this
                    unfold eb_set
                    rw [if_neg (by omega), if_pos rfl, if_pos rfl]
                    simp)⟩, b10.kept (eb_up_n (by omega) (eb_up_n (by omega) (eb_up_n (by omega) rfl))) (eb_up_n (by omega) (eb_up_n (by omega) (eb_up_n (by omega) rfl))), b11.kept (eb_up_n (by omega) (eb_up_n (by omega) (eb_up_n (by omega) rfl))) (eb_up_n (by omega) (eb_up_n (by omega) (eb_up_n (by omega) rfl)))⟩, fun k z => eb_up_n (by omega) (eb_up_n (by omega) (eb_up_n (by omega) rfl))⟩)
            · exact absurd c_37 (by omega)
          · exact absurd c_25 (by decide)
        · exact absurd c_10 (by decide)
theorem x10_tear (HR : MR h T ty fa past seed i0 i1 sees book) (HO : SOK T ty fa past seed i0 i1 sees book) : eb_T mX10_tear [.ref 67] n h (eb_G (some (.int (eb_I ((sees.length : Int) + (book.length : Int))))) n (fun h' => MR h' T ty fa past seed i0 i1 [] [] ∧ L67 h h')) := by
  obtain ⟨cc, HR⟩ := HR
  obtain ⟨H_this, K, ⟨sf, H_this_st, hm⟩, ⟨pf, H_this_past, hp⟩, ⟨tf, H_this_typed, htf⟩, ⟨⟨ns, H_this_newSizes⟩, nl, H_this_newLetters⟩, ⟨⟨wd, H_this_wide⟩, HM, ⟨be, H_this_begins⟩, wi, H_this_with⟩, ⟨se, H_this_seen, hse⟩, ⟨bo, H_this_book, hbo⟩, ⟨⟨bb, H_this_beginsBy⟩, ib, H_this_isBy⟩, imf, kp, H_this_images, H_this_isKept, hi0, hi1⟩ := id HR
  obtain ⟨b1, b2, b3, b4, b5, b6, b7, b8, b9, b10, b11⟩ := id HR
  obtain ⟨k2, k3, k5, k6, k19, k21⟩ := K
  obtain ⟨HT, hty, hfa, hpo, hsd, hg0, hg1, hsu, hbk⟩ := id HO
  have hN : T.1.length ≤ 40 := HT.1.1
  obtain ⟨m0, m1, m2, m3, m4, m5⟩ := id hm
  have e0 : sf (0 : Int).toNat = (T.1.length : Int) := hm.1
  refine eb_T.of (by decide +kernel) (Nat.le_of_ble_eq_true rfl) ?_
  show eb_V _ _ 0 [.ref 67, eb_no] [] (n, 0, 0) h _
  refine V_aload_n eX10_tear_0 rfl rfl ?_
  refine V_getf eX10_tear_1 H_this rfl ?_
  rw [k19]
  refine V_aload_n eX10_tear_4 rfl rfl ?_
  refine V_getf eX10_tear_5 H_this rfl ?_
  rw [k21]
  refine V_iadd eX10_tear_8 ?_
  refine V_istore_n eX10_tear_9 rfl (Nat.le_of_ble_eq_true rfl) rfl (eb_sS eb_s0) ?_
  refine V_aload_n eX10_tear_10 rfl rfl ?_
  refine V_iconst eX10_tear_11 ?_
  refine V_putf eX10_tear_12 H_this eb_fitI (eb_sS (eb_sS (eb_sS (eb_sS (eb_sS (eb_sS (eb_sS (eb_sS (eb_sS (eb_sS (eb_sS (eb_sS (eb_sS (eb_sS (eb_sS (eb_sS (eb_sS (eb_sS (eb_sS eb_s0))))))))))))))))))) (Nat.le_of_ble_eq_true rfl) ?_
  show eb_V _ _ 15 _ _ _ (eb_up _ 67 (mo (eb_set cc 19 0))) _
  refine V_aload_n eX10_tear_15 rfl rfl ?_
  refine V_iconst eX10_tear_16 ?_
  refine V_putf eX10_tear_17 eb_up_s eb_fitI (eb_sS (eb_sS (eb_sS (eb_sS (eb_sS (eb_sS (eb_sS (eb_sS (eb_sS (eb_sS (eb_sS (eb_sS (eb_sS (eb_sS (eb_sS (eb_sS (eb_sS (eb_sS (eb_sS (eb_sS (eb_sS eb_s0))))))))))))))))))))) (Nat.le_of_ble_eq_true rfl) ?_
  show eb_V _ _ 20 _ _ _ (eb_up _ 67 (mo (eb_set (eb_set cc 19 0) 21 0))) _
  refine V_iload_n eX10_tear_20 rfl rfl ?_
  exact V_iret eX10_tear_21 ⟨Nat.zero_le _, Nat.zero_le _⟩ rfl (rfl) (⟨rfl, rfl, ⟨_, eb_up_s, ⟨k2, k3, k5, k6, rfl, rfl⟩, b3.kept (eb_up_n (by omega) (eb_up_n (by omega) rfl)), b4.kept (eb_up_n (by omega) (eb_up_n (by omega) rfl)), b5.kept (eb_up_n (by omega) (eb_up_n (by omega) rfl)), b6.kept (eb_up_n (by omega) (eb_up_n (by omega) rfl)) (eb_up_n (by omega) (eb_up_n (by omega) rfl)), b7.kept (fun k x y => eb_up_n (by omega) (eb_up_n (by omega) rfl)), ⟨se, eb_up_n (by omega) (eb_up_n (by omega) H_this_seen), fun k hk => absurd hk (by simp)⟩, ⟨bo, eb_up_n (by omega) (eb_up_n (by omega) H_this_book), fun k hk => absurd hk (by simp)⟩, b10.kept (eb_up_n (by omega) (eb_up_n (by omega) rfl)) (eb_up_n (by omega) (eb_up_n (by omega) rfl)), b11.kept (eb_up_n (by omega) (eb_up_n (by omega) rfl)) (eb_up_n (by omega) (eb_up_n (by omega) rfl))⟩, fun k z => eb_up_n (by omega) (eb_up_n (by omega) rfl)⟩)
end M14
