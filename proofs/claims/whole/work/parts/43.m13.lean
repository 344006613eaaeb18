theorem TX_set {T : TX} {w : Nat} {l : List Nat} (HO : TX_ok T) (hl : sp_ok l ∧ 0 < l.length) : TX_ok (T.1.set w l, T.2) := by
  have h0 := HO.1.1
  refine ⟨⟨by simp; omega, HO.1.2⟩, fun x hx => ?_⟩
  rcases List.mem_or_eq_of_mem_set hx with q | q
  · exact HO.2 x q
  · rw [q]
    exact hl
theorem TX_ins {T : TX} {w : Nat} {l : List Nat} (HO : TX_ok T) (hl : sp_ok l ∧ 0 < l.length) (h40 : T.1.length < 40) : TX_ok (T.1.take w ++ l :: T.1.drop w, T.2) := by
  refine ⟨⟨by simp; omega, HO.1.2⟩, fun x hx => ?_⟩
  rcases List.mem_append.mp hx with q | q
  · exact HO.2 x (List.mem_of_mem_take q)
  · rcases List.mem_cons.mp q with q | q
    · rw [q]
      exact hl
    · exact HO.2 x (List.mem_of_mem_drop q)
theorem TX_del {T : TX} {w : Nat} (HO : TX_ok T) : TX_ok (T.1.take w ++ T.1.drop (w + 1), T.2) := by
  have h0 := HO.1.1
  refine ⟨⟨by simp; omega, HO.1.2⟩, fun x hx => ?_⟩
  rcases List.mem_append.mp hx with q | q
  · exact HO.2 x (List.mem_of_mem_take q)
  · exact HO.2 x (List.mem_of_mem_drop q)
theorem ms_set {f sf : Nat → Int} {T : TX} {w : Nat} {l : List Nat} (hm : ms sf T) (HO : TX_ok T) (h1 : mw f w l) (h2 : oth sf f w) (hw : w < T.1.length) : ms f (T.1.set w l, T.2) := by
  have hN : T.1.length ≤ 40 := HO.1.1
  obtain ⟨m0, m1, m2, m3, m4, m5⟩ := hm
  refine ⟨by simp only [List.length_set]; exact (h2.lo (by omega)).trans m0, (h2.lo (by omega)).trans m1, (h2.lo (by omega)).trans m2, (h2.lo (by omega)).trans m3, (h2.lo (by omega)).trans m4, fun x hx => ?_⟩
  have hx' : x < T.1.length := by simpa using hx
  show mw f x (T.1.set w l)[x]
  by_cases y : x = w
  · subst y
    rw [List.getElem_set_self]
    exact h1
  · rw [List.getElem_set_ne (by omega)]
    exact h2.mw (m5 x hx') (by omega) (by omega) y ((HO.2 _ (List.getElem_mem hx')).1.2)
section M13
variable {n : Nat} {h : eb_H} {T : TX} {ty : List Nat} {fa : Int} {past : List TX} {seed : Int} {i0 i1 : Option (TX × Int)} {sees : List (Nat × Bool)} {book : List (Int × Int)}
theorem MRc.deed {h' : eb_H} {cc c' : Nat → Int} {T' : TX} {ty' : List Nat} {fa' : Int} {past' : List TX} {seed' : Int} (HR : MRc cc h T ty fa past seed i0 i1 sees book) (e : h' 67 = mo c') (K' : mK c' ty' fa' past' seed' sees book) (S : mst h' T') (P : mpa h' past') (Y : mty h' ty') (N : mnn h') (X : mX h') (hk : ∀ k, (k < 67 ∨ 80 ≤ k) → h' k = h k) : MR h' T' ty' fa' past' seed' i0 i1 sees book ∧ L67 h h' := by
  obtain ⟨a1, a2, a3, a4, a5, a6, a7, a8, a9, a10, a11⟩ := HR
  exact ⟨⟨c', e, K', S, P, Y, N, X, a8.kept (hk _ (by omega)), a9.kept (hk _ (by omega)), a10.kept (hk _ (by omega)) (hk _ (by omega)), a11.kept (hk _ (by omega)) (hk _ (by omega))⟩, fun k z => hk k (by omega)⟩
theorem x10_feed_out {c : Int} (HR : MR h T ty fa past seed i0 i1 sees book) (HO : SOK T ty fa past seed i0 i1 sees book) (hr : -2147483648 ≤ c ∧ c ≤ 2147483647) (hc : c < 0 ∨ 255 < c) : eb_T mX10_feed [.ref 67, .int (eb_I c)] n h (eb_G (some (.int (eb_I (-1000000002)))) n (fun h' => MR h' T ty fa past seed i0 i1 sees book ∧ L67 h h')) := by
  obtain ⟨cc, HR⟩ := HR
  obtain ⟨H_this, K, ⟨sf, H_this_st, hm⟩, ⟨pf, H_this_past, hp⟩, ⟨tf, H_this_typed, htf⟩, ⟨⟨ns, H_this_newSizes⟩, nl, H_this_newLetters⟩, ⟨⟨wd, H_this_wide⟩, HM, ⟨be, H_this_begins⟩, wi, H_this_with⟩, ⟨se, H_this_seen, hse⟩, ⟨bo, H_this_book, hbo⟩, ⟨⟨bb, H_this_beginsBy⟩, ib, H_this_isBy⟩, imf, kp, H_this_images, H_this_isKept, hi0, hi1⟩ := id HR
  obtain ⟨b1, b2, b3, b4, b5, b6, b7, b8, b9, b10, b11⟩ := id HR
  obtain ⟨k2, k3, k5, k6, k19, k21⟩ := K
  obtain ⟨HT, hty, hfa, hpo, hsd, hg0, hg1, hsu, hbk⟩ := id HO
  have hN : T.1.length ≤ 40 := HT.1.1
  obtain ⟨m0, m1, m2, m3, m4, m5⟩ := id hm
  have e0 : sf (0 : Int).toNat = (T.1.length : Int) := hm.1
  refine eb_T.of (by decide +kernel) (Nat.le_of_ble_eq_true rfl) ?_
  show eb_V _ _ 0 [.ref 67, .int (eb_I c)] [] (n, 0, 0) h _
  refine V_iload_n eX10_feed_0 rfl rfl ?_
  refine V_i2lI eX10_feed_1 (by omega) ?_
  refine V_lconst (b := 0) eX10_feed_2 (by decide) ?_
  refine V_ldc2 (a := 255) eX10_feed_3 wd_797 (by decide) ?_
  refine V_csi eX10_feed_6 (c_X10_in (by omega)) rfl rfl (Nat.le_of_ble_eq_true rfl) ⟨rfl, rfl⟩ ⟨Nat.zero_le _, Nat.zero_le _⟩ ?_
  rw [if_neg (by omega)]
  refine V_if_ne (tgt := 15) eX10_feed_9 rfl (by omega) (fun c_9 => ?_) (fun c_9 => ?_)
  · exact absurd rfl c_9
  · refine V_ldc (a := -1000000002) eX10_feed_12 wd_801 (by decide) ?_
    exact V_iret eX10_feed_14 ⟨Nat.zero_le _, Nat.zero_le _⟩ rfl (rfl) (⟨rfl, rfl, ⟨cc, HR⟩, fun _ _ => rfl⟩)
theorem x10_feed_in {c : Nat} (HR : MR h T ty fa past seed i0 i1 sees book) (HO : SOK T ty fa past seed i0 i1 sees book) (hc : c ≤ 255) : eb_T mX10_feed [.ref 67, .int (eb_I (c : Int))] n h (eb_G (some (.int (eb_I (if 240 ≤ ty.length then -1000000004 else (ty.length : Int) + 1)))) n (fun h' => MR h' T (if 240 ≤ ty.length then ty else ty ++ [c]) fa past seed i0 i1 sees book ∧ L67 h h')) := by
  obtain ⟨cc, HR⟩ := HR
  obtain ⟨H_this, K, ⟨sf, H_this_st, hm⟩, ⟨pf, H_this_past, hp⟩, ⟨tf, H_this_typed, htf⟩, ⟨⟨ns, H_this_newSizes⟩, nl, H_this_newLetters⟩, ⟨⟨wd, H_this_wide⟩, HM, ⟨be, H_this_begins⟩, wi, H_this_with⟩, ⟨se, H_this_seen, hse⟩, ⟨bo, H_this_book, hbo⟩, ⟨⟨bb, H_this_beginsBy⟩, ib, H_this_isBy⟩, imf, kp, H_this_images, H_this_isKept, hi0, hi1⟩ := id HR
  obtain ⟨b1, b2, b3, b4, b5, b6, b7, b8, b9, b10, b11⟩ := id HR
  obtain ⟨k2, k3, k5, k6, k19, k21⟩ := K
  obtain ⟨HT, hty, hfa, hpo, hsd, hg0, hg1, hsu, hbk⟩ := id HO
  have hN : T.1.length ≤ 40 := HT.1.1
  obtain ⟨m0, m1, m2, m3, m4, m5⟩ := id hm
  have e0 : sf (0 : Int).toNat = (T.1.length : Int) := hm.1
  refine eb_T.of (by decide +kernel) (Nat.le_of_ble_eq_true rfl) ?_
  show eb_V _ _ 0 [.ref 67, .int (eb_I (c : Int))] [] (n, 0, 0) h _
  by_cases y : 240 ≤ ty.length
  · simp only [if_pos y]
    refine V_iload_n eX10_feed_0 rfl rfl ?_
    refine V_i2lI eX10_feed_1 (by omega) ?_
    refine V_lconst (b := 0) eX10_feed_2 (by decide) ?_
    refine V_ldc2 (a := 255) eX10_feed_3 wd_797 (by decide) ?_
    refine V_csi eX10_feed_6 (c_X10_in (by omega)) rfl rfl (Nat.le_of_ble_eq_true rfl) ⟨rfl, rfl⟩ ⟨Nat.zero_le _, Nat.zero_le _⟩ ?_
    rw [if_pos (by omega)]
    refine V_if_ne (tgt := 15) eX10_feed_9 rfl (by omega) (fun c_9 => ?_) (fun c_9 => ?_)
    · refine V_aload_n eX10_feed_15 rfl rfl ?_
      refine V_getf eX10_feed_16 H_this rfl ?_
      rw [k5]
      refine V_sipush eX10_feed_19 (by decide) ?_
      refine V_icmp_ne (tgt := 28) eX10_feed_22 rfl (by omega) (fun c_22 => ?_) (fun c_22 => ?_)
      · exact absurd (by omega) c_22
      · refine V_ldc (a := -1000000004) eX10_feed_25 wd_802 (by decide) ?_
        exact V_iret eX10_feed_27 ⟨Nat.zero_le _, Nat.zero_le _⟩ rfl (rfl) (⟨rfl, rfl, ⟨cc, HR⟩, fun _ _ => rfl⟩)
    · exact absurd c_9 (by decide)
  · simp only [if_neg y]
    refine V_iload_n eX10_feed_0 rfl rfl ?_
    refine V_i2lI eX10_feed_1 (by omega) ?_
    refine V_lconst (b := 0) eX10_feed_2 (by decide) ?_
    refine V_ldc2 (a := 255) eX10_feed_3 wd_797 (by decide) ?_
    refine V_csi eX10_feed_6 (c_X10_in (by omega)) rfl rfl (Nat.le_of_ble_eq_true rfl) ⟨rfl, rfl⟩ ⟨Nat.zero_le _, Nat.zero_le _⟩ ?_
    rw [if_pos (by omega)]
    refine V_if_ne (tgt := 15) eX10_feed_9 rfl (by omega) (fun c_9 => ?_) (fun c_9 => ?_)
    · refine V_aload_n eX10_feed_15 rfl rfl ?_
      refine V_getf eX10_feed_16 H_this rfl ?_
      rw [k5]
      refine V_sipush eX10_feed_19 (by decide) ?_
      refine V_icmp_ne (tgt := 28) eX10_feed_22 rfl (by omega) (fun c_22 => ?_) (fun c_22 => ?_)
      · refine V_aload_n eX10_feed_28 rfl rfl ?_
        refine V_getf eX10_feed_29 H_this rfl ?_
        refine V_aload_n eX10_feed_32 rfl rfl ?_
        refine V_getf eX10_feed_33 H_this rfl ?_
        rw [k5]
        refine V_iload_n eX10_feed_36 rfl rfl ?_
        refine V_iast eX10_feed_37 H_this_typed (by omega) ?_
        rw [Int.toNat_natCast]
        refine V_aload_n eX10_feed_38 rfl rfl ?_
        refine V_dup eX10_feed_39 rfl ?_
        refine V_getf eX10_feed_40 (eb_up_n (by omega) H_this) rfl ?_
        rw [k5]
        refine V_iconst eX10_feed_43 ?_
        refine V_iadd eX10_feed_44 ?_
        refine V_putf eX10_feed_45 (eb_up_n (by omega) H_this) eb_fitI (eb_sS (eb_sS (eb_sS (eb_sS (eb_sS eb_s0))))) (Nat.le_of_ble_eq_true rfl) ?_
        show eb_V _ _ 48 _ _ _ (eb_up _ 67 (mo (eb_set cc 5 ((ty.length : Int) + 1)))) _
        refine V_aload_n eX10_feed_48 rfl rfl ?_
        refine V_getf eX10_feed_49 eb_up_s rfl ?_
        show eb_V _ _ 52 _ [.int (eb_I ((ty.length : Int) + 1))] _ _ _
        exact V_iret eX10_feed_52 ⟨Nat.zero_le _, Nat.zero_le _⟩ rfl (rfl) (⟨rfl, rfl, HR.deed eb_up_s ⟨k2, k3, by show (ty.length : Int) + 1 = _; simp, k6, k19, k21⟩ (b3.kept (by simp [eb_up])) (b4.kept (by simp [eb_up])) ⟨_, eb_up_n (by omega) eb_up_s, (fun k hk => by
            unfold eb_set
            by_cases y2 : k < ty.length
            · rw [if_neg (by omega), List.getElem_append_left y2]
              exact htf k y2
            · have : k = ty.length := by simp at hk; omega
              subst this
              rw [if_pos rfl]
              simp)⟩ (b6.kept (by simp [eb_up]) (by simp [eb_up])) (b7.kept (fun k x y => eb_up_n (by omega) (eb_up_n (by omega) rfl))) (fun k z => eb_up_n (by omega) (eb_up_n (by omega) rfl))⟩)
      · exact absurd c_22 (by omega)
    · exact absurd c_9 (by decide)
theorem x10_type_bad (HR : MR h T ty fa past seed i0 i1 sees book) (HO : SOK T ty fa past seed i0 i1 sees book) (hb : (rd ty 0 [] 0).1 ≠ 0) : eb_T mX10_type [.ref 67] n h (eb_G (some (.int (eb_I (-10 - ((rd ty 0 [] 0).1 : Int))))) n (fun h' => MR h' T [] (rd ty 0 [] 0).2.1 past seed i0 i1 sees book ∧ L67 h h')) := by
  obtain ⟨cc, HR⟩ := HR
  obtain ⟨H_this, K, ⟨sf, H_this_st, hm⟩, ⟨pf, H_this_past, hp⟩, ⟨tf, H_this_typed, htf⟩, ⟨⟨ns, H_this_newSizes⟩, nl, H_this_newLetters⟩, ⟨⟨wd, H_this_wide⟩, HM, ⟨be, H_this_begins⟩, wi, H_this_with⟩, ⟨se, H_this_seen, hse⟩, ⟨bo, H_this_book, hbo⟩, ⟨⟨bb, H_this_beginsBy⟩, ib, H_this_isBy⟩, imf, kp, H_this_images, H_this_isKept, hi0, hi1⟩ := id HR
  obtain ⟨b1, b2, b3, b4, b5, b6, b7, b8, b9, b10, b11⟩ := id HR
  obtain ⟨k2, k3, k5, k6, k19, k21⟩ := K
  obtain ⟨HT, hty, hfa, hpo, hsd, hg0, hg1, hsu, hbk⟩ := id HO
  have hN : T.1.length ≤ 40 := HT.1.1
  obtain ⟨m0, m1, m2, m3, m4, m5⟩ := id hm
  have e0 : sf (0 : Int).toNat = (T.1.length : Int) := hm.1
  refine eb_T.of (by decide +kernel) (Nat.le_of_ble_eq_true rfl) ?_
  show eb_V _ _ 0 [.ref 67, eb_no, eb_no] [] (n, 0, 0) h _
  have TR := c_X10_readWords (n := n) H_this H_this_typed k5 htf hty.1 hty.2 H_this_newSizes H_this_newLetters
  have hok := rd_ok ty 0 [] 0 rd_inv_0
  generalize hR : rd ty 0 [] 0 = R at *
  have r3 := hok.2.1
  rw [if_neg hb] at TR
  refine V_aload_n eX10_type_0 rfl rfl ?_
  refine V_cvg eX10_type_1 (TR) H_this rfl rfl (Nat.le_of_ble_eq_true rfl) ⟨rfl, rfl⟩ ⟨Nat.zero_le _, Nat.zero_le _⟩ (fun h1 ⟨⟨wc, ns1, nl1, D1, D2, D3, D4⟩, D5⟩ => ?_)
  show eb_V _ _ 4 _ [.int (eb_I (-10 - (R.1 : Int)))] _ _ _
  refine V_istore_n eX10_type_4 rfl (Nat.le_of_ble_eq_true rfl) rfl (eb_sS eb_s0) ?_
  refine V_iload_n eX10_type_5 rfl rfl ?_
  refine V_if_ge (tgt := 11) eX10_type_6 rfl (by omega) (fun c_6 => ?_) (fun c_6 => ?_)
  · exact absurd c_6 (by omega)
  · refine V_iload_n eX10_type_9 rfl rfl ?_
    exact V_iret eX10_type_10 ⟨Nat.zero_le _, Nat.zero_le _⟩ rfl (rfl) (⟨rfl, rfl, HR.deed D1 ⟨k2, k3, rfl, rfl, k19, k21⟩ (b3.kept (D5 68 (by omega) (by omega) (by omega))) (b4.kept (D5 69 (by omega) (by omega) (by omega))) ⟨tf, (D5 70 (by omega) (by omega) (by omega)).trans H_this_typed, fun k hk => absurd hk (by simp)⟩ ⟨⟨_, D2⟩, _, D3⟩ (b7.kept (fun k x y => D5 k (by omega) (by omega) (by omega))) (fun k z => D5 k (by omega) (by omega) (by omega))⟩)
theorem x10_type_ok (HR : MR h T ty fa past seed i0 i1 sees book) (HO : SOK T ty fa past seed i0 i1 sees book) (hb : (rd ty 0 [] 0).1 = 0) : eb_T mX10_type [.ref 67] n h (eb_G (some (.int (eb_I (((rd ty 0 [] 0).2.2.length : Int))))) n (fun h' => MR h' ((rd ty 0 [] 0).2.2, T.2) [] (rd ty 0 [] 0).2.1 ((T :: past).take 16) seed i0 i1 sees book ∧ L67 h h')) := by
  obtain ⟨cc, HR⟩ := HR
  obtain ⟨H_this, K, ⟨sf, H_this_st, hm⟩, ⟨pf, H_this_past, hp⟩, ⟨tf, H_this_typed, htf⟩, ⟨⟨ns, H_this_newSizes⟩, nl, H_this_newLetters⟩, ⟨⟨wd, H_this_wide⟩, HM, ⟨be, H_this_begins⟩, wi, H_this_with⟩, ⟨se, H_this_seen, hse⟩, ⟨bo, H_this_book, hbo⟩, ⟨⟨bb, H_this_beginsBy⟩, ib, H_this_isBy⟩, imf, kp, H_this_images, H_this_isKept, hi0, hi1⟩ := id HR
  obtain ⟨b1, b2, b3, b4, b5, b6, b7, b8, b9, b10, b11⟩ := id HR
  obtain ⟨k2, k3, k5, k6, k19, k21⟩ := K
  obtain ⟨HT, hty, hfa, hpo, hsd, hg0, hg1, hsu, hbk⟩ := id HO
  have hN : T.1.length ≤ 40 := HT.1.1
  obtain ⟨m0, m1, m2, m3, m4, m5⟩ := id hm
  have e0 : sf (0 : Int).toNat = (T.1.length : Int) := hm.1
  refine eb_T.of (by decide +kernel) (Nat.le_of_ble_eq_true rfl) ?_
  show eb_V _ _ 0 [.ref 67, eb_no, eb_no] [] (n, 0, 0) h _
  have TR := c_X10_readWords (n := n) H_this H_this_typed k5 htf hty.1 hty.2 H_this_newSizes H_this_newLetters
  have hok := rd_ok ty 0 [] 0 rd_inv_0
  generalize hR : rd ty 0 [] 0 = R at *
  have r40 := hok.1.1
  have hlr : ∀ x (hx : x < R.2.2.length), R.2.2[x].length ≤ 12 := fun x hx => (hok.1.2.2.1 _ (List.getElem_mem hx)).1.2
  rw [if_pos hb] at TR
  have loop : ∀ (h1 h2 : eb_H) (wc : Int) (ns1 nl1 pf2 : Nat → Int), wc = (R.2.2.length : Int) → (∀ w (hw : w < R.2.2.length), nw ns1 nl1 w R.2.2[w]) → h1 71 = eb_ia 40 ns1 → h1 72 = eb_ia 480 nl1 → (∀ k, k ≠ 67 → k ≠ 71 → k ≠ 72 → h1 k = h k) → h2 67 = mo (eb_set (mrc cc R.2.1 wc) 2 (((T :: past).take 16).length : Int)) → h2 69 = eb_ia 8400 pf2 → mp pf2 ((T :: past).take 16) → (∀ k, k ≠ 67 → k ≠ 69 → h2 k = h1 k) → ∀ (d k : Nat) (h3 : eb_H) (f : Nat → Int), k + d = 40 → h3 68 = eb_ia 525 f → (∀ j, j ≠ 68 → h3 j = h2 j) → f 0 = (R.2.2.length : Int) → (∀ j, 0 < j → j < 5 → f j = sf j) → (∀ x (hx : x < R.2.2.length), x < k → mw f x R.2.2[x]) → eb_V mX10_type (fun _ _ _ => True) 27 [.ref 67, .int (eb_I 0), .int (eb_I (k : Int))] [] (n, 0, 0) h3 (eb_R mX10_type (eb_G (some (.int (eb_I (R.2.2.length : Int)))) n (fun h' => MR h' (R.2.2, T.2) [] R.2.1 ((T :: past).take 16) seed i0 i1 sees book ∧ L67 h h'))) := by
    intro h1 h2 wc ns1 nl1 pf2 ewc A2 A3 A4 A5 A6 A7 A8 A9 d
    subst ewc
    induction d with
    | zero =>
      intro k h3 f hk B1 B2 B3 B4 B5
      have H_this : h3 67 = _ := (B2 67 (by omega)).trans A6
      have H_this_st := B1
      have e3 : f (0 : Int).toNat = (R.2.2.length : Int) := B3
      refine V_iload_n eX10_type_27 rfl rfl ?_
      refine V_bipush eX10_type_28 (by decide) ?_
      refine V_icmp_ge (tgt := 61) eX10_type_30 rfl (by omega) (fun c_30 => ?_) (fun c_30 => ?_)
      · refine V_aload_n eX10_type_61 rfl rfl ?_
        refine V_getf eX10_type_62 H_this rfl ?_
        refine V_iconst eX10_type_65 ?_
        refine V_iald eX10_type_66 H_this_st (by omega) ?_
        rw [e3]
        exact V_iret eX10_type_67 ⟨Nat.zero_le _, Nat.zero_le _⟩ rfl (rfl) (⟨rfl, rfl, HR.deed H_this ⟨rfl, k3, rfl, rfl, k19, k21⟩ ⟨f, B1, B3, (B4 1 (by omega) (by omega)).trans m1, (B4 2 (by omega) (by omega)).trans m2, (B4 3 (by omega) (by omega)).trans m3, (B4 4 (by omega) (by omega)).trans m4, fun x hx => B5 x hx (by have : x < R.2.2.length := hx; omega)⟩ ⟨pf2, (B2 69 (by omega)).trans A7, A8⟩ ⟨tf, (B2 70 (by omega)).trans ((A9 70 (by omega) (by omega)).trans ((A5 70 (by omega) (by omega) (by omega)).trans H_this_typed)), fun k hk => absurd hk (by simp)⟩ ⟨⟨ns1, (B2 71 (by omega)).trans ((A9 71 (by omega) (by omega)).trans A3)⟩, nl1, (B2 72 (by omega)).trans ((A9 72 (by omega) (by omega)).trans A4)⟩ (b7.kept (fun k x y => (B2 k (by omega)).trans ((A9 k (by omega) (by omega)).trans (A5 k (by omega) (by omega) (by omega))))) (fun k z => (B2 k (by omega)).trans ((A9 k (by omega) (by omega)).trans (A5 k (by omega) (by omega) (by omega))))⟩)
      · exact absurd (by omega) c_30
    | succ d ih =>
      intro k h3 f hk B1 B2 B3 B4 B5
      have H_this : h3 67 = _ := (B2 67 (by omega)).trans A6
      have H_this_st := B1
      by_cases y : k < R.2.2.length
      · have TT := c_X10_takeWord (n := n) (w := k) (i := k) H_this B1 ((B2 71 (by omega)).trans ((A9 71 (by omega) (by omega)).trans A3)) ((B2 72 (by omega)).trans ((A9 72 (by omega) (by omega)).trans A4)) (by omega) (by omega) (hlr k y) (A2 k y)
        refine V_iload_n eX10_type_27 rfl rfl ?_
        refine V_bipush eX10_type_28 (by decide) ?_
        refine V_icmp_ge (tgt := 61) eX10_type_30 rfl (by omega) (fun c_30 => ?_) (fun c_30 => ?_)
        · exact absurd c_30 (by omega)
        · refine V_iload_n eX10_type_33 rfl rfl ?_
          refine V_aload_n eX10_type_34 rfl rfl ?_
          refine V_getf eX10_type_35 H_this rfl ?_
          show eb_V _ _ 38 _ [.int (eb_I (R.2.2.length : Int)), _] _ _ _
          refine V_icmp_ge (tgt := 50) eX10_type_38 rfl (by omega) (fun c_38 => ?_) (fun c_38 => ?_)
          · exact absurd c_38 (by omega)
          · refine V_aload_n eX10_type_41 rfl rfl ?_
            refine V_iload_n eX10_type_42 rfl rfl ?_
            refine V_iload_n eX10_type_43 rfl rfl ?_
            refine V_cvg eX10_type_44 (TT) H_this rfl rfl (Nat.le_of_ble_eq_true rfl) ⟨rfl, rfl⟩ ⟨Nat.zero_le _, Nat.zero_le _⟩ (fun h4 ⟨⟨f4, C1, C2, C3⟩, C4⟩ => ?_)
            show eb_V _ _ 47 _ [] _ _ _
            refine V_goto (tgt := 55) eX10_type_47 rfl ?_
            refine V_iinc eX10_type_55 rfl rfl (eb_sS (eb_sS eb_s0)) ?_
            refine V_goto (tgt := 27) eX10_type_58 rfl ?_
            exact ih (k + 1) h4 f4 (by omega) C1 (fun j z => (C4 j z).trans (B2 j z)) ((C3.lo (by omega)).trans B3) (fun j z1 z2 => (C3.lo z2).trans (B4 j z1 z2)) (fun x hx z => by
              by_cases y2 : x = k
              · subst y2; exact C2
              · exact C3.mw (B5 x hx (by omega)) (by omega) (by omega) y2 (hlr x hx))
      · have TT := c_X10_clearWord (n := n) (w := k) H_this B1 (by omega)
        refine V_iload_n eX10_type_27 rfl rfl ?_
        refine V_bipush eX10_type_28 (by decide) ?_
        refine V_icmp_ge (tgt := 61) eX10_type_30 rfl (by omega) (fun c_30 => ?_) (fun c_30 => ?_)
        · exact absurd c_30 (by omega)
        · refine V_iload_n eX10_type_33 rfl rfl ?_
          refine V_aload_n eX10_type_34 rfl rfl ?_
          refine V_getf eX10_type_35 H_this rfl ?_
          show eb_V _ _ 38 _ [.int (eb_I (R.2.2.length : Int)), _] _ _ _
          refine V_icmp_ge (tgt := 50) eX10_type_38 rfl (by omega) (fun c_38 => ?_) (fun c_38 => ?_)
          · refine V_aload_n eX10_type_50 rfl rfl ?_
            refine V_iload_n eX10_type_51 rfl rfl ?_
            refine V_cvg eX10_type_52 (TT) H_this rfl rfl (Nat.le_of_ble_eq_true rfl) ⟨rfl, rfl⟩ ⟨Nat.zero_le _, Nat.zero_le _⟩ (fun h4 ⟨⟨f4, C1, C3⟩, C4⟩ => ?_)
            show eb_V _ _ 55 _ [] _ _ _
            refine V_iinc eX10_type_55 rfl rfl (eb_sS (eb_sS eb_s0)) ?_
            refine V_goto (tgt := 27) eX10_type_58 rfl ?_
            exact ih (k + 1) h4 f4 (by omega) C1 (fun j z => (C4 j z).trans (B2 j z)) ((C3.lo (by omega)).trans B3) (fun j z1 z2 => (C3.lo z2).trans (B4 j z1 z2)) (fun x hx z => C3.mw (B5 x hx (by omega)) (by omega) (by omega) (by omega) (hlr x hx))
          · exact absurd c_38 (by omega)
  refine V_aload_n eX10_type_0 rfl rfl ?_
  refine V_cvg eX10_type_1 (TR) H_this rfl rfl (Nat.le_of_ble_eq_true rfl) ⟨rfl, rfl⟩ ⟨Nat.zero_le _, Nat.zero_le _⟩ (fun h1 ⟨⟨wc, ns1, nl1, D1, D2, D3, D4⟩, D5⟩ => ?_)
  show eb_V _ _ 4 _ [.int (eb_I 0)] _ _ _
  obtain ⟨E1, E2⟩ := D4 hb
  refine V_istore_n eX10_type_4 rfl (Nat.le_of_ble_eq_true rfl) rfl (eb_sS eb_s0) ?_
  refine V_iload_n eX10_type_5 rfl rfl ?_
  refine V_if_ge (tgt := 11) eX10_type_6 rfl (by omega) (fun c_6 => ?_) (fun c_6 => ?_)
  · refine V_aload_n eX10_type_11 rfl rfl ?_
    refine V_cvg eX10_type_12 (c_X10_note (n := n) (c := mrc cc R.2.1 wc) D1 ((D5 68 (by omega) (by omega) (by omega)).trans H_this_st) hm HT ((D5 69 (by omega) (by omega) (by omega)).trans H_this_past) (show mrc cc R.2.1 wc 2 = _ from k2) hp hpo) D1 rfl rfl (Nat.le_of_ble_eq_true rfl) ⟨rfl, rfl⟩ ⟨Nat.zero_le _, Nat.zero_le _⟩ (fun h2 ⟨⟨F1, pf2, F2, F3⟩, F4⟩ => ?_)
    show eb_V _ _ 15 _ [] _ _ _
    have H_this := F1
    have H_this_st : h2 68 = eb_ia 525 sf := (F4 68 (by omega) (by omega)).trans ((D5 68 (by omega) (by omega) (by omega)).trans H_this_st)
    refine V_aload_n eX10_type_15 rfl rfl ?_
    refine V_getf eX10_type_16 H_this rfl ?_
    refine V_iconst eX10_type_19 ?_
    refine V_aload_n eX10_type_20 rfl rfl ?_
    refine V_getf eX10_type_21 H_this rfl ?_
    show eb_V _ _ 24 _ [.int (eb_I wc), _, _] _ _ _
    refine V_eqI (b := (R.2.2.length : Int)) E1 ?_
    refine V_iast eX10_type_24 H_this_st (by omega) ?_
    rw [show ((0 : Int)).toNat = 0 from rfl]
    refine V_iconst eX10_type_25 ?_
    refine V_istore_n eX10_type_26 rfl (Nat.le_of_ble_eq_true rfl) rfl (eb_sS (eb_sS eb_s0)) ?_
    exact loop h1 h2 wc ns1 nl1 pf2 E1 E2 D2 D3 D5 F1 F2 F3 F4 40 0 _ _ (by omega) eb_up_s (fun j z => eb_up_n z rfl) rfl (fun j z1 z2 => by unfold eb_set; rw [if_neg (by omega)]) (fun x hx z => absurd z (by omega))
  · exact absurd (by decide) c_6
theorem x10_change_unk {w : Int} (HR : MR h T ty fa past seed i0 i1 sees book) (HO : SOK T ty fa past seed i0 i1 sees book) (hw : -2147483648 ≤ w ∧ w ≤ 2147483647) (hc : ¬ (0 ≤ w ∧ w < (T.1.length : Int))) : eb_T mX10_change [.ref 67, .int (eb_I w)] n h (eb_G (some (.int (eb_I (-1000000001)))) n (fun h' => MR h' T ty fa past seed i0 i1 sees book ∧ L67 h h')) := by
  obtain ⟨cc, HR⟩ := HR
  obtain ⟨H_this, K, ⟨sf, H_this_st, hm⟩, ⟨pf, H_this_past, hp⟩, ⟨tf, H_this_typed, htf⟩, ⟨⟨ns, H_this_newSizes⟩, nl, H_this_newLetters⟩, ⟨⟨wd, H_this_wide⟩, HM, ⟨be, H_this_begins⟩, wi, H_this_with⟩, ⟨se, H_this_seen, hse⟩, ⟨bo, H_this_book, hbo⟩, ⟨⟨bb, H_this_beginsBy⟩, ib, H_this_isBy⟩, imf, kp, H_this_images, H_this_isKept, hi0, hi1⟩ := id HR
  obtain ⟨b1, b2, b3, b4, b5, b6, b7, b8, b9, b10, b11⟩ := id HR
  obtain ⟨k2, k3, k5, k6, k19, k21⟩ := K
  obtain ⟨HT, hty, hfa, hpo, hsd, hg0, hg1, hsu, hbk⟩ := id HO
  have hN : T.1.length ≤ 40 := HT.1.1
  obtain ⟨m0, m1, m2, m3, m4, m5⟩ := id hm
  have e0 : sf (0 : Int).toNat = (T.1.length : Int) := hm.1
  refine eb_T.of (by decide +kernel) (Nat.le_of_ble_eq_true rfl) ?_
  show eb_V _ _ 0 [.ref 67, .int (eb_I w), eb_no] [] (n, 0, 0) h _
  refine V_aload_n eX10_change_0 rfl rfl ?_
  refine V_iload_n eX10_change_1 rfl rfl ?_
  refine V_cvi eX10_change_2 (c_X10_isWord (n := n) H_this H_this_st hm hN hw) H_this rfl rfl (Nat.le_of_ble_eq_true rfl) ⟨rfl, rfl⟩ ⟨Nat.zero_le _, Nat.zero_le _⟩ ?_
  rw [if_neg hc]
  refine V_if_ne (tgt := 11) eX10_change_5 rfl (by omega) (fun c_5 => ?_) (fun c_5 => ?_)
  · exact absurd rfl c_5
  · refine V_ldc (a := -1000000001) eX10_change_8 wd_841 (by decide) ?_
    exact V_iret eX10_change_10 ⟨Nat.zero_le _, Nat.zero_le _⟩ rfl (rfl) (⟨rfl, rfl, ⟨cc, HR⟩, fun _ _ => rfl⟩)
theorem x10_change_bad {w : Int} (HR : MR h T ty fa past seed i0 i1 sees book) (HO : SOK T ty fa past seed i0 i1 sees book) (hw : -2147483648 ≤ w ∧ w ≤ 2147483647) (hc : 0 ≤ w ∧ w < (T.1.length : Int)) (hb : rd1 (rd ty 0 [] 0) ≠ 0) : eb_T mX10_change [.ref 67, .int (eb_I w)] n h (eb_G (some (.int (eb_I (rd1 (rd ty 0 [] 0))))) n (fun h' => MR h' T [] (rd ty 0 [] 0).2.1 past seed i0 i1 sees book ∧ L67 h h')) := by
  obtain ⟨cc, HR⟩ := HR
  obtain ⟨H_this, K, ⟨sf, H_this_st, hm⟩, ⟨pf, H_this_past, hp⟩, ⟨tf, H_this_typed, htf⟩, ⟨⟨ns, H_this_newSizes⟩, nl, H_this_newLetters⟩, ⟨⟨wd, H_this_wide⟩, HM, ⟨be, H_this_begins⟩, wi, H_this_with⟩, ⟨se, H_this_seen, hse⟩, ⟨bo, H_this_book, hbo⟩, ⟨⟨bb, H_this_beginsBy⟩, ib, H_this_isBy⟩, imf, kp, H_this_images, H_this_isKept, hi0, hi1⟩ := id HR
  obtain ⟨b1, b2, b3, b4, b5, b6, b7, b8, b9, b10, b11⟩ := id HR
  obtain ⟨k2, k3, k5, k6, k19, k21⟩ := K
  obtain ⟨HT, hty, hfa, hpo, hsd, hg0, hg1, hsu, hbk⟩ := id HO
  have hN : T.1.length ≤ 40 := HT.1.1
  obtain ⟨m0, m1, m2, m3, m4, m5⟩ := id hm
  have e0 : sf (0 : Int).toNat = (T.1.length : Int) := hm.1
  refine eb_T.of (by decide +kernel) (Nat.le_of_ble_eq_true rfl) ?_
  show eb_V _ _ 0 [.ref 67, .int (eb_I w), eb_no] [] (n, 0, 0) h _
  have TR := c_X10_readOne (n := n) H_this H_this_typed k5 htf hty.1 hty.2 H_this_newSizes H_this_newLetters
  have hok := rd_ok ty 0 [] 0 rd_inv_0
  generalize hR : rd ty 0 [] 0 = R at *
  have r3 := hok.2.1
  have rr : -1000000003 ≤ rd1 R ∧ rd1 R ≤ 0 := by
    unfold rd1
    split
    · omega
    · split <;> omega
  refine V_aload_n eX10_change_0 rfl rfl ?_
  refine V_iload_n eX10_change_1 rfl rfl ?_
  refine V_cvi eX10_change_2 (c_X10_isWord (n := n) H_this H_this_st hm hN hw) H_this rfl rfl (Nat.le_of_ble_eq_true rfl) ⟨rfl, rfl⟩ ⟨Nat.zero_le _, Nat.zero_le _⟩ ?_
  rw [if_pos hc]
  refine V_if_ne (tgt := 11) eX10_change_5 rfl (by omega) (fun c_5 => ?_) (fun c_5 => ?_)
  · refine V_aload_n eX10_change_11 rfl rfl ?_
    refine V_cvg eX10_change_12 (TR) H_this rfl rfl (Nat.le_of_ble_eq_true rfl) ⟨rfl, rfl⟩ ⟨Nat.zero_le _, Nat.zero_le _⟩ (fun h1 ⟨⟨wc, ns1, nl1, D1, D2, D3, D4⟩, D5⟩ => ?_)
    show eb_V _ _ 15 _ [.int (eb_I (rd1 R))] _ _ _
    refine V_istore_n eX10_change_15 rfl (Nat.le_of_ble_eq_true rfl) rfl (eb_sS (eb_sS eb_s0)) ?_
    refine V_iload_n eX10_change_16 rfl rfl ?_
    refine V_if_ge (tgt := 22) eX10_change_17 rfl (by omega) (fun c_17 => ?_) (fun c_17 => ?_)
    · exact absurd c_17 (by omega)
    · refine V_iload_n eX10_change_20 rfl rfl ?_
      exact V_iret eX10_change_21 ⟨Nat.zero_le _, Nat.zero_le _⟩ rfl (rfl) (⟨rfl, rfl, HR.deed D1 ⟨k2, k3, rfl, rfl, k19, k21⟩ (b3.kept (D5 68 (by omega) (by omega) (by omega))) (b4.kept (D5 69 (by omega) (by omega) (by omega))) ⟨tf, (D5 70 (by omega) (by omega) (by omega)).trans H_this_typed, fun k hk => absurd hk (by simp)⟩ ⟨⟨_, D2⟩, _, D3⟩ (b7.kept (fun k x y => D5 k (by omega) (by omega) (by omega))) (fun k z => D5 k (by omega) (by omega) (by omega))⟩)
  · exact absurd c_5 (by decide)
theorem x10_take_unk {w : Int} (HR : MR h T ty fa past seed i0 i1 sees book) (HO : SOK T ty fa past seed i0 i1 sees book) (hw : -2147483648 ≤ w ∧ w ≤ 2147483647) (hc : ¬ (0 ≤ w ∧ w < (T.1.length : Int))) : eb_T mX10_take [.ref 67, .int (eb_I w)] n h (eb_G (some (.int (eb_I (-1000000001)))) n (fun h' => MR h' T ty fa past seed i0 i1 sees book ∧ L67 h h')) := by
  obtain ⟨cc, HR⟩ := HR
  obtain ⟨H_this, K, ⟨sf, H_this_st, hm⟩, ⟨pf, H_this_past, hp⟩, ⟨tf, H_this_typed, htf⟩, ⟨⟨ns, H_this_newSizes⟩, nl, H_this_newLetters⟩, ⟨⟨wd, H_this_wide⟩, HM, ⟨be, H_this_begins⟩, wi, H_this_with⟩, ⟨se, H_this_seen, hse⟩, ⟨bo, H_this_book, hbo⟩, ⟨⟨bb, H_this_beginsBy⟩, ib, H_this_isBy⟩, imf, kp, H_this_images, H_this_isKept, hi0, hi1⟩ := id HR
  obtain ⟨b1, b2, b3, b4, b5, b6, b7, b8, b9, b10, b11⟩ := id HR
  obtain ⟨k2, k3, k5, k6, k19, k21⟩ := K
  obtain ⟨HT, hty, hfa, hpo, hsd, hg0, hg1, hsu, hbk⟩ := id HO
  have hN : T.1.length ≤ 40 := HT.1.1
  obtain ⟨m0, m1, m2, m3, m4, m5⟩ := id hm
  have e0 : sf (0 : Int).toNat = (T.1.length : Int) := hm.1
  refine eb_T.of (by decide +kernel) (Nat.le_of_ble_eq_true rfl) ?_
  show eb_V _ _ 0 [.ref 67, .int (eb_I w), eb_no, eb_no] [] (n, 0, 0) h _
  refine V_aload_n eX10_take_0 rfl rfl ?_
  refine V_iload_n eX10_take_1 rfl rfl ?_
  refine V_cvi eX10_take_2 (c_X10_isWord (n := n) H_this H_this_st hm hN hw) H_this rfl rfl (Nat.le_of_ble_eq_true rfl) ⟨rfl, rfl⟩ ⟨Nat.zero_le _, Nat.zero_le _⟩ ?_
  rw [if_neg hc]
  refine V_if_ne (tgt := 11) eX10_take_5 rfl (by omega) (fun c_5 => ?_) (fun c_5 => ?_)
  · exact absurd rfl c_5
  · refine V_ldc (a := -1000000001) eX10_take_8 wd_841 (by decide) ?_
    exact V_iret eX10_take_10 ⟨Nat.zero_le _, Nat.zero_le _⟩ rfl (rfl) (⟨rfl, rfl, ⟨cc, HR⟩, fun _ _ => rfl⟩)
theorem x10_insert_unk {w : Int} (HR : MR h T ty fa past seed i0 i1 sees book) (HO : SOK T ty fa past seed i0 i1 sees book) (hw : -2147483648 ≤ w ∧ w ≤ 2147483647) (hc : ¬ (0 ≤ w ∧ w ≤ (T.1.length : Int))) : eb_T mX10_insert [.ref 67, .int (eb_I w)] n h (eb_G (some (.int (eb_I (-1000000001)))) n (fun h' => MR h' T ty fa past seed i0 i1 sees book ∧ L67 h h')) := by
  obtain ⟨cc, HR⟩ := HR
  obtain ⟨H_this, K, ⟨sf, H_this_st, hm⟩, ⟨pf, H_this_past, hp⟩, ⟨tf, H_this_typed, htf⟩, ⟨⟨ns, H_this_newSizes⟩, nl, H_this_newLetters⟩, ⟨⟨wd, H_this_wide⟩, HM, ⟨be, H_this_begins⟩, wi, H_this_with⟩, ⟨se, H_this_seen, hse⟩, ⟨bo, H_this_book, hbo⟩, ⟨⟨bb, H_this_beginsBy⟩, ib, H_this_isBy⟩, imf, kp, H_this_images, H_this_isKept, hi0, hi1⟩ := id HR
  obtain ⟨b1, b2, b3, b4, b5, b6, b7, b8, b9, b10, b11⟩ := id HR
  obtain ⟨k2, k3, k5, k6, k19, k21⟩ := K
  obtain ⟨HT, hty, hfa, hpo, hsd, hg0, hg1, hsu, hbk⟩ := id HO
  have hN : T.1.length ≤ 40 := HT.1.1
  obtain ⟨m0, m1, m2, m3, m4, m5⟩ := id hm
  have e0 : sf (0 : Int).toNat = (T.1.length : Int) := hm.1
  refine eb_T.of (by decide +kernel) (Nat.le_of_ble_eq_true rfl) ?_
  show eb_V _ _ 0 [.ref 67, .int (eb_I w), eb_no] [] (n, 0, 0) h _
  refine V_aload_n eX10_insert_0 rfl rfl ?_
  refine V_iload_n eX10_insert_1 rfl rfl ?_
  refine V_cvi eX10_insert_2 (c_X10_isEnd (n := n) H_this H_this_st hm hN hw) H_this rfl rfl (Nat.le_of_ble_eq_true rfl) ⟨rfl, rfl⟩ ⟨Nat.zero_le _, Nat.zero_le _⟩ ?_
  rw [if_neg hc]
  refine V_if_ne (tgt := 11) eX10_insert_5 rfl (by omega) (fun c_5 => ?_) (fun c_5 => ?_)
  · exact absurd rfl c_5
  · refine V_ldc (a := -1000000001) eX10_insert_8 wd_841 (by decide) ?_
    exact V_iret eX10_insert_10 ⟨Nat.zero_le _, Nat.zero_le _⟩ rfl (rfl) (⟨rfl, rfl, ⟨cc, HR⟩, fun _ _ => rfl⟩)
theorem x10_insert_bad {w : Int} (HR : MR h T ty fa past seed i0 i1 sees book) (HO : SOK T ty fa past seed i0 i1 sees book) (hw : -2147483648 ≤ w ∧ w ≤ 2147483647) (hc : 0 ≤ w ∧ w ≤ (T.1.length : Int)) (hb : rd1 (rd ty 0 [] 0) ≠ 0) : eb_T mX10_insert [.ref 67, .int (eb_I w)] n h (eb_G (some (.int (eb_I (rd1 (rd ty 0 [] 0))))) n (fun h' => MR h' T [] (rd ty 0 [] 0).2.1 past seed i0 i1 sees book ∧ L67 h h')) := by
  obtain ⟨cc, HR⟩ := HR
  obtain ⟨H_this, K, ⟨sf, H_this_st, hm⟩, ⟨pf, H_this_past, hp⟩, ⟨tf, H_this_typed, htf⟩, ⟨⟨ns, H_this_newSizes⟩, nl, H_this_newLetters⟩, ⟨⟨wd, H_this_wide⟩, HM, ⟨be, H_this_begins⟩, wi, H_this_with⟩, ⟨se, H_this_seen, hse⟩, ⟨bo, H_this_book, hbo⟩, ⟨⟨bb, H_this_beginsBy⟩, ib, H_this_isBy⟩, imf, kp, H_this_images, H_this_isKept, hi0, hi1⟩ := id HR
  obtain ⟨b1, b2, b3, b4, b5, b6, b7, b8, b9, b10, b11⟩ := id HR
  obtain ⟨k2, k3, k5, k6, k19, k21⟩ := K
  obtain ⟨HT, hty, hfa, hpo, hsd, hg0, hg1, hsu, hbk⟩ := id HO
  have hN : T.1.length ≤ 40 := HT.1.1
  obtain ⟨m0, m1, m2, m3, m4, m5⟩ := id hm
  have e0 : sf (0 : Int).toNat = (T.1.length : Int) := hm.1
  refine eb_T.of (by decide +kernel) (Nat.le_of_ble_eq_true rfl) ?_
  show eb_V _ _ 0 [.ref 67, .int (eb_I w), eb_no] [] (n, 0, 0) h _
  have TR := c_X10_readOne (n := n) H_this H_this_typed k5 htf hty.1 hty.2 H_this_newSizes H_this_newLetters
  have hok := rd_ok ty 0 [] 0 rd_inv_0
  generalize hR : rd ty 0 [] 0 = R at *
  have r3 := hok.2.1
  have rr : -1000000003 ≤ rd1 R ∧ rd1 R ≤ 0 := by
    unfold rd1
    split
    · omega
    · split <;> omega
  refine V_aload_n eX10_insert_0 rfl rfl ?_
  refine V_iload_n eX10_insert_1 rfl rfl ?_
  refine V_cvi eX10_insert_2 (c_X10_isEnd (n := n) H_this H_this_st hm hN hw) H_this rfl rfl (Nat.le_of_ble_eq_true rfl) ⟨rfl, rfl⟩ ⟨Nat.zero_le _, Nat.zero_le _⟩ ?_
  rw [if_pos hc]
  refine V_if_ne (tgt := 11) eX10_insert_5 rfl (by omega) (fun c_5 => ?_) (fun c_5 => ?_)
  · refine V_aload_n eX10_insert_11 rfl rfl ?_
    refine V_cvg eX10_insert_12 (TR) H_this rfl rfl (Nat.le_of_ble_eq_true rfl) ⟨rfl, rfl⟩ ⟨Nat.zero_le _, Nat.zero_le _⟩ (fun h1 ⟨⟨wc, ns1, nl1, D1, D2, D3, D4⟩, D5⟩ => ?_)
    show eb_V _ _ 15 _ [.int (eb_I (rd1 R))] _ _ _
    refine V_istore_n eX10_insert_15 rfl (Nat.le_of_ble_eq_true rfl) rfl (eb_sS (eb_sS eb_s0)) ?_
    refine V_iload_n eX10_insert_16 rfl rfl ?_
    refine V_if_ge (tgt := 22) eX10_insert_17 rfl (by omega) (fun c_17 => ?_) (fun c_17 => ?_)
    · exact absurd c_17 (by omega)
    · refine V_iload_n eX10_insert_20 rfl rfl ?_
      exact V_iret eX10_insert_21 ⟨Nat.zero_le _, Nat.zero_le _⟩ rfl (rfl) (⟨rfl, rfl, HR.deed D1 ⟨k2, k3, rfl, rfl, k19, k21⟩ (b3.kept (D5 68 (by omega) (by omega) (by omega))) (b4.kept (D5 69 (by omega) (by omega) (by omega))) ⟨tf, (D5 70 (by omega) (by omega) (by omega)).trans H_this_typed, fun k hk => absurd hk (by simp)⟩ ⟨⟨_, D2⟩, _, D3⟩ (b7.kept (fun k x y => D5 k (by omega) (by omega) (by omega))) (fun k z => D5 k (by omega) (by omega) (by omega))⟩)
  · exact absurd c_5 (by decide)
theorem x10_change_ok {w : Nat} (HR : MR h T ty fa past seed i0 i1 sees book) (HO : SOK T ty fa past seed i0 i1 sees book) (hc : w < T.1.length) (hb : rd1 (rd ty 0 [] 0) = 0) : eb_T mX10_change [.ref 67, .int (eb_I (w : Int))] n h (eb_G (some (.int (eb_I (sp_ww ((rd ty 0 [] 0).2.2.getD 0 []))))) n (fun h' => MR h' (T.1.set w ((rd ty 0 [] 0).2.2.getD 0 []), T.2) [] (rd ty 0 [] 0).2.1 ((T :: past).take 16) seed i0 i1 sees book ∧ L67 h h')) := by
  obtain ⟨cc, HR⟩ := HR
  obtain ⟨H_this, K, ⟨sf, H_this_st, hm⟩, ⟨pf, H_this_past, hp⟩, ⟨tf, H_this_typed, htf⟩, ⟨⟨ns, H_this_newSizes⟩, nl, H_this_newLetters⟩, ⟨⟨wd, H_this_wide⟩, HM, ⟨be, H_this_begins⟩, wi, H_this_with⟩, ⟨se, H_this_seen, hse⟩, ⟨bo, H_this_book, hbo⟩, ⟨⟨bb, H_this_beginsBy⟩, ib, H_this_isBy⟩, imf, kp, H_this_images, H_this_isKept, hi0, hi1⟩ := id HR
  obtain ⟨b1, b2, b3, b4, b5, b6, b7, b8, b9, b10, b11⟩ := id HR
  obtain ⟨k2, k3, k5, k6, k19, k21⟩ := K
  obtain ⟨HT, hty, hfa, hpo, hsd, hg0, hg1, hsu, hbk⟩ := id HO
  have hN : T.1.length ≤ 40 := HT.1.1
  obtain ⟨m0, m1, m2, m3, m4, m5⟩ := id hm
  have e0 : sf (0 : Int).toNat = (T.1.length : Int) := hm.1
  refine eb_T.of (by decide +kernel) (Nat.le_of_ble_eq_true rfl) ?_
  show eb_V _ _ 0 [.ref 67, .int (eb_I (w : Int)), eb_no] [] (n, 0, 0) h _
  have TR := c_X10_readOne (n := n) H_this H_this_typed k5 htf hty.1 hty.2 H_this_newSizes H_this_newLetters
  have hok := rd_ok ty 0 [] 0 rd_inv_0
  generalize hR : rd ty 0 [] 0 = R at *
  obtain ⟨r0, r1⟩ := rd1_0 hb hok.2.1
  have hlen0 : 0 < R.2.2.length := by omega
  have eD : R.2.2.getD 0 [] = R.2.2[0] := by simp [hlen0]
  have hl0 : sp_ok R.2.2[0] ∧ 0 < R.2.2[0].length := hok.1.2.2.1 _ (List.getElem_mem hlen0)
  have hl12 := hl0.1.2
  rw [eD]
  have hTX : TX_ok (T.1.set w R.2.2[0], T.2) := TX_set HT hl0
  have TW : ∀ (h3 : eb_H) (c3 f : Nat → Int), h3 67 = mo c3 → h3 68 = eb_ia 525 f → ms f (T.1.set w R.2.2[0], T.2) → eb_T mX10_wordWidth [.ref 67, .int (eb_I (w : Int))] n h3 (eb_X (some (.int (eb_I (sp_ww R.2.2[0])))) n h3) := fun h3 c3 f a1 a2 a3 => by
    have := c_X10_wordWidth (n := n) (w := w) a1 a2 a3 hTX (by simp; exact hc)
    simpa using this
  refine V_aload_n eX10_change_0 rfl rfl ?_
  refine V_iload_n eX10_change_1 rfl rfl ?_
  refine V_cvi eX10_change_2 (c_X10_isWord (n := n) H_this H_this_st hm hN (by omega)) H_this rfl rfl (Nat.le_of_ble_eq_true rfl) ⟨rfl, rfl⟩ ⟨Nat.zero_le _, Nat.zero_le _⟩ ?_
  rw [if_pos (by omega)]
  refine V_if_ne (tgt := 11) eX10_change_5 rfl (by omega) (fun c_5 => ?_) (fun c_5 => ?_)
  · refine V_aload_n eX10_change_11 rfl rfl ?_
    refine V_cvg eX10_change_12 (TR) H_this rfl rfl (Nat.le_of_ble_eq_true rfl) ⟨rfl, rfl⟩ ⟨Nat.zero_le _, Nat.zero_le _⟩ (fun h1 ⟨⟨wc, ns1, nl1, D1, D2, D3, D4⟩, D5⟩ => ?_)
    show eb_V _ _ 15 _ [.int (eb_I (rd1 R))] _ _ _
    rw [hb]
    obtain ⟨E1, E2⟩ := D4 r0
    refine V_istore_n eX10_change_15 rfl (Nat.le_of_ble_eq_true rfl) rfl (eb_sS (eb_sS eb_s0)) ?_
    refine V_iload_n eX10_change_16 rfl rfl ?_
    refine V_if_ge (tgt := 22) eX10_change_17 rfl (by omega) (fun c_17 => ?_) (fun c_17 => ?_)
    · refine V_aload_n eX10_change_22 rfl rfl ?_
      refine V_cvg eX10_change_23 (c_X10_note (n := n) (c := mrc cc R.2.1 wc) D1 ((D5 68 (by omega) (by omega) (by omega)).trans H_this_st) hm HT ((D5 69 (by omega) (by omega) (by omega)).trans H_this_past) (show mrc cc R.2.1 wc 2 = _ from k2) hp hpo) D1 rfl rfl (Nat.le_of_ble_eq_true rfl) ⟨rfl, rfl⟩ ⟨Nat.zero_le _, Nat.zero_le _⟩ (fun h2 ⟨⟨F1, pf2, F2, F3⟩, F4⟩ => ?_)
      have H2st : h2 68 = eb_ia 525 sf := (F4 68 (by omega) (by omega)).trans ((D5 68 (by omega) (by omega) (by omega)).trans H_this_st)
      show eb_V _ _ 26 _ [] _ _ _
      refine V_aload_n eX10_change_26 rfl rfl ?_
      refine V_iload_n eX10_change_27 rfl rfl ?_
      refine V_iconst eX10_change_28 ?_
      refine V_cvg eX10_change_29 (c_X10_takeWord (n := n) (w := w) (i := 0) F1 H2st ((F4 71 (by omega) (by omega)).trans D2) ((F4 72 (by omega) (by omega)).trans D3) (by omega) (by omega) hl12 (E2 0 hlen0)) F1 rfl rfl (Nat.le_of_ble_eq_true rfl) ⟨rfl, rfl⟩ ⟨Nat.zero_le _, Nat.zero_le _⟩ (fun h3 ⟨⟨f3, C1, C2, C3⟩, C4⟩ => ?_)
      have hm3 := ms_set hm HT C2 C3 hc
      have H3 := (C4 67 (by omega)).trans F1
      show eb_V _ _ 32 _ [] _ _ _
      refine V_aload_n eX10_change_32 rfl rfl ?_
      refine V_iload_n eX10_change_33 rfl rfl ?_
      refine V_cvi eX10_change_34 (TW h3 _ f3 H3 C1 hm3) H3 rfl rfl (Nat.le_of_ble_eq_true rfl) ⟨rfl, rfl⟩ ⟨Nat.zero_le _, Nat.zero_le _⟩ ?_
      exact V_iret eX10_change_37 ⟨Nat.zero_le _, Nat.zero_le _⟩ rfl (rfl) (⟨rfl, rfl, HR.deed H3 ⟨rfl, k3, rfl, rfl, k19, k21⟩ ⟨f3, C1, hm3⟩ ⟨pf2, (C4 69 (by omega)).trans F2, F3⟩ ⟨tf, (C4 70 (by omega)).trans ((F4 70 (by omega) (by omega)).trans ((D5 70 (by omega) (by omega) (by omega)).trans H_this_typed)), fun k hk => absurd hk (by simp)⟩ ⟨⟨ns1, (C4 71 (by omega)).trans ((F4 71 (by omega) (by omega)).trans D2)⟩, nl1, (C4 72 (by omega)).trans ((F4 72 (by omega) (by omega)).trans D3)⟩ (b7.kept (fun k x y => (C4 k (by omega)).trans ((F4 k (by omega) (by omega)).trans (D5 k (by omega) (by omega) (by omega))))) (fun k z => (C4 k (by omega)).trans ((F4 k (by omega) (by omega)).trans (D5 k (by omega) (by omega) (by omega))))⟩)
    · exact absurd (by decide) c_17
  · exact absurd c_5 (by decide)
theorem x10_insert_full {w : Nat} (HR : MR h T ty fa past seed i0 i1 sees book) (HO : SOK T ty fa past seed i0 i1 sees book) (hc : w ≤ T.1.length) (h40 : 40 ≤ T.1.length) (hb : rd1 (rd ty 0 [] 0) = 0) : eb_T mX10_insert [.ref 67, .int (eb_I (w : Int))] n h (eb_G (some (.int (eb_I (-1000000004)))) n (fun h' => MR h' T [] (rd ty 0 [] 0).2.1 past seed i0 i1 sees book ∧ L67 h h')) := by
  obtain ⟨cc, HR⟩ := HR
  obtain ⟨H_this, K, ⟨sf, H_this_st, hm⟩, ⟨pf, H_this_past, hp⟩, ⟨tf, H_this_typed, htf⟩, ⟨⟨ns, H_this_newSizes⟩, nl, H_this_newLetters⟩, ⟨⟨wd, H_this_wide⟩, HM, ⟨be, H_this_begins⟩, wi, H_this_with⟩, ⟨se, H_this_seen, hse⟩, ⟨bo, H_this_book, hbo⟩, ⟨⟨bb, H_this_beginsBy⟩, ib, H_this_isBy⟩, imf, kp, H_this_images, H_this_isKept, hi0, hi1⟩ := id HR
  obtain ⟨b1, b2, b3, b4, b5, b6, b7, b8, b9, b10, b11⟩ := id HR
  obtain ⟨k2, k3, k5, k6, k19, k21⟩ := K
  obtain ⟨HT, hty, hfa, hpo, hsd, hg0, hg1, hsu, hbk⟩ := id HO
  have hN : T.1.length ≤ 40 := HT.1.1
  obtain ⟨m0, m1, m2, m3, m4, m5⟩ := id hm
  have e0 : sf (0 : Int).toNat = (T.1.length : Int) := hm.1
  refine eb_T.of (by decide +kernel) (Nat.le_of_ble_eq_true rfl) ?_
  show eb_V _ _ 0 [.ref 67, .int (eb_I (w : Int)), eb_no] [] (n, 0, 0) h _
  have TR := c_X10_readOne (n := n) H_this H_this_typed k5 htf hty.1 hty.2 H_this_newSizes H_this_newLetters
  have hok := rd_ok ty 0 [] 0 rd_inv_0
  generalize hR : rd ty 0 [] 0 = R at *
  obtain ⟨r0, r1⟩ := rd1_0 hb hok.2.1
  have hlen0 : 0 < R.2.2.length := by omega
  have eD : R.2.2.getD 0 [] = R.2.2[0] := by simp [hlen0]
  have hl0 : sp_ok R.2.2[0] ∧ 0 < R.2.2[0].length := hok.1.2.2.1 _ (List.getElem_mem hlen0)
  have hl12 := hl0.1.2
  refine V_aload_n eX10_insert_0 rfl rfl ?_
  refine V_iload_n eX10_insert_1 rfl rfl ?_
  refine V_cvi eX10_insert_2 (c_X10_isEnd (n := n) H_this H_this_st hm hN (by omega)) H_this rfl rfl (Nat.le_of_ble_eq_true rfl) ⟨rfl, rfl⟩ ⟨Nat.zero_le _, Nat.zero_le _⟩ ?_
  rw [if_pos (by omega)]
  refine V_if_ne (tgt := 11) eX10_insert_5 rfl (by omega) (fun c_5 => ?_) (fun c_5 => ?_)
  · refine V_aload_n eX10_insert_11 rfl rfl ?_
    refine V_cvg eX10_insert_12 (TR) H_this rfl rfl (Nat.le_of_ble_eq_true rfl) ⟨rfl, rfl⟩ ⟨Nat.zero_le _, Nat.zero_le _⟩ (fun h1 ⟨⟨wc, ns1, nl1, D1, D2, D3, D4⟩, D5⟩ => ?_)
    show eb_V _ _ 15 _ [.int (eb_I (rd1 R))] _ _ _
    rw [hb]
    obtain ⟨E1, E2⟩ := D4 r0
    have H_this := D1
    have H_this_st : h1 68 = eb_ia 525 sf := (D5 68 (by omega) (by omega) (by omega)).trans H_this_st
    refine V_istore_n eX10_insert_15 rfl (Nat.le_of_ble_eq_true rfl) rfl (eb_sS (eb_sS eb_s0)) ?_
    refine V_iload_n eX10_insert_16 rfl rfl ?_
    refine V_if_ge (tgt := 22) eX10_insert_17 rfl (by omega) (fun c_17 => ?_) (fun c_17 => ?_)
    · refine V_aload_n eX10_insert_22 rfl rfl ?_
      refine V_getf eX10_insert_23 H_this rfl ?_
      refine V_iconst eX10_insert_26 ?_
      refine V_iald eX10_insert_27 H_this_st (by omega) ?_
      rw [e0]
      refine V_bipush eX10_insert_28 (by decide) ?_
      refine V_icmp_ne (tgt := 36) eX10_insert_30 rfl (by omega) (fun c_30 => ?_) (fun c_30 => ?_)
      · exact absurd (by omega) c_30
      · refine V_ldc (a := -1000000004) eX10_insert_33 wd_802 (by decide) ?_
        exact V_iret eX10_insert_35 ⟨Nat.zero_le _, Nat.zero_le _⟩ rfl (rfl) (⟨rfl, rfl, HR.deed D1 ⟨k2, k3, rfl, rfl, k19, k21⟩ (b3.kept (D5 68 (by omega) (by omega) (by omega))) (b4.kept (D5 69 (by omega) (by omega) (by omega))) ⟨tf, (D5 70 (by omega) (by omega) (by omega)).trans H_this_typed, fun k hk => absurd hk (by simp)⟩ ⟨⟨_, D2⟩, _, D3⟩ (b7.kept (fun k x y => D5 k (by omega) (by omega) (by omega))) (fun k z => D5 k (by omega) (by omega) (by omega))⟩)
    · exact absurd (by decide) c_17
  · exact absurd c_5 (by decide)
theorem x10_insert_ok {w : Nat} (HR : MR h T ty fa past seed i0 i1 sees book) (HO : SOK T ty fa past seed i0 i1 sees book) (hc : w ≤ T.1.length) (h40 : T.1.length < 40) (hb : rd1 (rd ty 0 [] 0) = 0) : eb_T mX10_insert [.ref 67, .int (eb_I (w : Int))] n h (eb_G (some (.int (eb_I (sp_ww ((rd ty 0 [] 0).2.2.getD 0 []))))) n (fun h' => MR h' (T.1.take w ++ (rd ty 0 [] 0).2.2.getD 0 [] :: T.1.drop w, T.2) [] (rd ty 0 [] 0).2.1 ((T :: past).take 16) seed i0 i1 sees book ∧ L67 h h')) := by
  obtain ⟨cc, HR⟩ := HR
  obtain ⟨H_this, K, ⟨sf, H_this_st, hm⟩, ⟨pf, H_this_past, hp⟩, ⟨tf, H_this_typed, htf⟩, ⟨⟨ns, H_this_newSizes⟩, nl, H_this_newLetters⟩, ⟨⟨wd, H_this_wide⟩, HM, ⟨be, H_this_begins⟩, wi, H_this_with⟩, ⟨se, H_this_seen, hse⟩, ⟨bo, H_this_book, hbo⟩, ⟨⟨bb, H_this_beginsBy⟩, ib, H_this_isBy⟩, imf, kp, H_this_images, H_this_isKept, hi0, hi1⟩ := id HR
  obtain ⟨b1, b2, b3, b4, b5, b6, b7, b8, b9, b10, b11⟩ := id HR
  obtain ⟨k2, k3, k5, k6, k19, k21⟩ := K
  obtain ⟨HT, hty, hfa, hpo, hsd, hg0, hg1, hsu, hbk⟩ := id HO
  have hN : T.1.length ≤ 40 := HT.1.1
  obtain ⟨m0, m1, m2, m3, m4, m5⟩ := id hm
  have e0 : sf (0 : Int).toNat = (T.1.length : Int) := hm.1
  refine eb_T.of (by decide +kernel) (Nat.le_of_ble_eq_true rfl) ?_
  show eb_V _ _ 0 [.ref 67, .int (eb_I (w : Int)), eb_no] [] (n, 0, 0) h _
  have TR := c_X10_readOne (n := n) H_this H_this_typed k5 htf hty.1 hty.2 H_this_newSizes H_this_newLetters
  have hok := rd_ok ty 0 [] 0 rd_inv_0
  generalize hR : rd ty 0 [] 0 = R at *
  obtain ⟨r0, r1⟩ := rd1_0 hb hok.2.1
  have hlen0 : 0 < R.2.2.length := by omega
  have eD : R.2.2.getD 0 [] = R.2.2[0] := by simp [hlen0]
  have hl0 : sp_ok R.2.2[0] ∧ 0 < R.2.2[0].length := hok.1.2.2.1 _ (List.getElem_mem hlen0)
  have hl12 := hl0.1.2
  rw [eD]
  have hTX : TX_ok (T.1.take w ++ R.2.2[0] :: T.1.drop w, T.2) := TX_ins HT hl0 h40
  have hwl : w < (T.1.take w ++ R.2.2[0] :: T.1.drop w).length := by simp; omega
  have hew : (T.1.take w ++ R.2.2[0] :: T.1.drop w)[w] = R.2.2[0] := by rw [tx_ins hc w hwl, if_neg (by omega), if_pos rfl]
  have TW : ∀ (h3 : eb_H) (c3 f : Nat → Int), h3 67 = mo c3 → h3 68 = eb_ia 525 f → ms f (T.1.take w ++ R.2.2[0] :: T.1.drop w, T.2) → eb_T mX10_wordWidth [.ref 67, .int (eb_I (w : Int))] n h3 (eb_X (some (.int (eb_I (sp_ww R.2.2[0])))) n h3) := fun h3 c3 f a1 a2 a3 => by
    have := c_X10_wordWidth (n := n) (w := w) a1 a2 a3 hTX hwl
    simp only [hew] at this
    exact this
  refine V_aload_n eX10_insert_0 rfl rfl ?_
  refine V_iload_n eX10_insert_1 rfl rfl ?_
  refine V_cvi eX10_insert_2 (c_X10_isEnd (n := n) H_this H_this_st hm hN (by omega)) H_this rfl rfl (Nat.le_of_ble_eq_true rfl) ⟨rfl, rfl⟩ ⟨Nat.zero_le _, Nat.zero_le _⟩ ?_
  rw [if_pos (by omega)]
  refine V_if_ne (tgt := 11) eX10_insert_5 rfl (by omega) (fun c_5 => ?_) (fun c_5 => ?_)
  · refine V_aload_n eX10_insert_11 rfl rfl ?_
    refine V_cvg eX10_insert_12 (TR) H_this rfl rfl (Nat.le_of_ble_eq_true rfl) ⟨rfl, rfl⟩ ⟨Nat.zero_le _, Nat.zero_le _⟩ (fun h1 ⟨⟨wc, ns1, nl1, D1, D2, D3, D4⟩, D5⟩ => ?_)
    show eb_V _ _ 15 _ [.int (eb_I (rd1 R))] _ _ _
    rw [hb]
    obtain ⟨E1, E2⟩ := D4 r0
    have H_this := D1
    have H_this_st : h1 68 = eb_ia 525 sf := (D5 68 (by omega) (by omega) (by omega)).trans H_this_st
    refine V_istore_n eX10_insert_15 rfl (Nat.le_of_ble_eq_true rfl) rfl (eb_sS (eb_sS eb_s0)) ?_
    refine V_iload_n eX10_insert_16 rfl rfl ?_
    refine V_if_ge (tgt := 22) eX10_insert_17 rfl (by omega) (fun c_17 => ?_) (fun c_17 => ?_)
    · refine V_aload_n eX10_insert_22 rfl rfl ?_
      refine V_getf eX10_insert_23 H_this rfl ?_
      refine V_iconst eX10_insert_26 ?_
      refine V_iald eX10_insert_27 H_this_st (by omega) ?_
      rw [e0]
      refine V_bipush eX10_insert_28 (by decide) ?_
      refine V_icmp_ne (tgt := 36) eX10_insert_30 rfl (by omega) (fun c_30 => ?_) (fun c_30 => ?_)
      · refine V_aload_n eX10_insert_36 rfl rfl ?_
        refine V_cvg eX10_insert_37 (c_X10_note (n := n) (c := mrc cc R.2.1 wc) D1 H_this_st hm HT ((D5 69 (by omega) (by omega) (by omega)).trans H_this_past) (show mrc cc R.2.1 wc 2 = _ from k2) hp hpo) D1 rfl rfl (Nat.le_of_ble_eq_true rfl) ⟨rfl, rfl⟩ ⟨Nat.zero_le _, Nat.zero_le _⟩ (fun h2 ⟨⟨F1, pf2, F2, F3⟩, F4⟩ => ?_)
        have H2st : h2 68 = eb_ia 525 sf := (F4 68 (by omega) (by omega)).trans H_this_st
        show eb_V _ _ 40 _ [] _ _ _
        refine V_aload_n eX10_insert_40 rfl rfl ?_
        refine V_iload_n eX10_insert_41 rfl rfl ?_
        refine V_cvg eX10_insert_42 (c_X10_putIn (n := n) (w := w) F1 H2st hm HT ((F4 71 (by omega) (by omega)).trans D2) ((F4 72 (by omega) (by omega)).trans D3) hc h40 hl12 (E2 0 hlen0)) F1 rfl rfl (Nat.le_of_ble_eq_true rfl) ⟨rfl, rfl⟩ ⟨Nat.zero_le _, Nat.zero_le _⟩ (fun h3 ⟨⟨f3, C1, hm3⟩, C4⟩ => ?_)
        have H3 := (C4 67 (by omega)).trans F1
        show eb_V _ _ 45 _ [] _ _ _
        refine V_aload_n eX10_insert_45 rfl rfl ?_
        refine V_iload_n eX10_insert_46 rfl rfl ?_
        refine V_cvi eX10_insert_47 (TW h3 _ f3 H3 C1 hm3) H3 rfl rfl (Nat.le_of_ble_eq_true rfl) ⟨rfl, rfl⟩ ⟨Nat.zero_le _, Nat.zero_le _⟩ ?_
        exact V_iret eX10_insert_50 ⟨Nat.zero_le _, Nat.zero_le _⟩ rfl (rfl) (⟨rfl, rfl, HR.deed H3 ⟨rfl, k3, rfl, rfl, k19, k21⟩ ⟨f3, C1, hm3⟩ ⟨pf2, (C4 69 (by omega)).trans F2, F3⟩ ⟨tf, (C4 70 (by omega)).trans ((F4 70 (by omega) (by omega)).trans ((D5 70 (by omega) (by omega) (by omega)).trans H_this_typed)), fun k hk => absurd hk (by simp)⟩ ⟨⟨ns1, (C4 71 (by omega)).trans ((F4 71 (by omega) (by omega)).trans D2)⟩, nl1, (C4 72 (by omega)).trans ((F4 72 (by omega) (by omega)).trans D3)⟩ (b7.kept (fun k x y => (C4 k (by omega)).trans ((F4 k (by omega) (by omega)).trans (D5 k (by omega) (by omega) (by omega))))) (fun k z => (C4 k (by omega)).trans ((F4 k (by omega) (by omega)).trans (D5 k (by omega) (by omega) (by omega))))⟩)
      · exact absurd c_30 (by omega)
    · exact absurd (by decide) c_17
  · exact absurd c_5 (by decide)
theorem x10_take_ok {w : Nat} (HR : MR h T ty fa past seed i0 i1 sees book) (HO : SOK T ty fa past seed i0 i1 sees book) (hc : w < T.1.length) : eb_T mX10_take [.ref 67, .int (eb_I (w : Int))] n h (eb_G (some (.int (eb_I (sp_ww (T.1.getD w []))))) n (fun h' => MR h' (T.1.take w ++ T.1.drop (w + 1), T.2) ty fa ((T :: past).take 16) seed i0 i1 sees book ∧ L67 h h')) := by
  obtain ⟨cc, HR⟩ := HR
  obtain ⟨H_this, K, ⟨sf, H_this_st, hm⟩, ⟨pf, H_this_past, hp⟩, ⟨tf, H_this_typed, htf⟩, ⟨⟨ns, H_this_newSizes⟩, nl, H_this_newLetters⟩, ⟨⟨wd, H_this_wide⟩, HM, ⟨be, H_this_begins⟩, wi, H_this_with⟩, ⟨se, H_this_seen, hse⟩, ⟨bo, H_this_book, hbo⟩, ⟨⟨bb, H_this_beginsBy⟩, ib, H_this_isBy⟩, imf, kp, H_this_images, H_this_isKept, hi0, hi1⟩ := id HR
  obtain ⟨b1, b2, b3, b4, b5, b6, b7, b8, b9, b10, b11⟩ := id HR
  obtain ⟨k2, k3, k5, k6, k19, k21⟩ := K
  obtain ⟨HT, hty, hfa, hpo, hsd, hg0, hg1, hsu, hbk⟩ := id HO
  have hN : T.1.length ≤ 40 := HT.1.1
  obtain ⟨m0, m1, m2, m3, m4, m5⟩ := id hm
  have e0 : sf (0 : Int).toNat = (T.1.length : Int) := hm.1
  refine eb_T.of (by decide +kernel) (Nat.le_of_ble_eq_true rfl) ?_
  show eb_V _ _ 0 [.ref 67, .int (eb_I (w : Int)), eb_no, eb_no] [] (n, 0, 0) h _
  have eD : T.1.getD w [] = T.1[w] := by simp [hc]
  have hll : ∀ x (hx : x < T.1.length), T.1[x].length ≤ 12 := fun x hx => (HT.2 _ (List.getElem_mem hx)).1.2
  have TN := c_X10_note (n := n) H_this H_this_st hm HT H_this_past k2 hp hpo
  have loop : ∀ (h2 : eb_H) (c2 pf2 : Nat → Int), h2 67 = mo c2 → mK c2 ty fa ((T :: past).take 16) seed sees book → h2 69 = eb_ia 8400 pf2 → mp pf2 ((T :: past).take 16) → (∀ k, k ≠ 67 → k ≠ 69 → h2 k = h k) → ∀ (d k : Nat) (h3 : eb_H) (f : Nat → Int), w ≤ k → k + d = T.1.length - 1 → h3 68 = eb_ia 525 f → (∀ j, j ≠ 68 → h3 j = h2 j) → f 0 = (T.1.length : Int) - 1 → (∀ j, 0 < j → j < 5 → f j = sf j) → (∀ x (hx : x < T.1.length), x < w ∨ k < x → mw f x T.1[x]) → (∀ x (hx : x + 1 < T.1.length), w ≤ x → x < k → mw f x T.1[x + 1]) → eb_V mX10_take (fun _ _ _ => True) 33 [.ref 67, .int (eb_I (w : Int)), .int (eb_I (sp_ww (T.1.getD w []))), .int (eb_I (k : Int))] [] (n, 0, 0) h3 (eb_R mX10_take (eb_G (some (.int (eb_I (sp_ww (T.1.getD w []))))) n (fun h' => MR h' (T.1.take w ++ T.1.drop (w + 1), T.2) ty fa ((T :: past).take 16) seed i0 i1 sees book ∧ L67 h h'))) := by
    intro h2 c2 pf2 A1 A2 A3 A4 A5 d
    induction d with
    | zero =>
      intro k h3 f hwk hk B1 B2 B3 B4 B5 B6
      have H_this : h3 67 = _ := (B2 67 (by omega)).trans A1
      have H_this_st := B1
      have e3 : f (0 : Int).toNat = (T.1.length : Int) - 1 := B3
      have TT := c_X10_clearWord (n := n) (w := T.1.length - 1) H_this B1 (by omega)
      refine V_iload_n eX10_take_33 rfl rfl ?_
      refine V_aload_n eX10_take_34 rfl rfl ?_
      refine V_getf eX10_take_35 H_this rfl ?_
      refine V_iconst eX10_take_38 ?_
      refine V_iald eX10_take_39 H_this_st (by omega) ?_
      rw [e3]
      refine V_icmp_ge (tgt := 57) eX10_take_40 rfl (by omega) (fun c_40 => ?_) (fun c_40 => ?_)
      · refine V_aload_n eX10_take_57 rfl rfl ?_
        refine V_aload_n eX10_take_58 rfl rfl ?_
        refine V_getf eX10_take_59 H_this rfl ?_
        refine V_iconst eX10_take_62 ?_
        refine V_iald eX10_take_63 H_this_st (by omega) ?_
        rw [e3]
        refine V_eqI (b := ((T.1.length - 1 : Nat) : Int)) (by omega) ?_
        refine V_cvg eX10_take_64 (TT) H_this rfl rfl (Nat.le_of_ble_eq_true rfl) ⟨rfl, rfl⟩ ⟨Nat.zero_le _, Nat.zero_le _⟩ (fun h4 ⟨⟨f4, C1, C3⟩, C4⟩ => ?_)
        show eb_V _ _ 67 _ [] _ _ _
        refine V_iload_n eX10_take_67 rfl rfl ?_
        refine V_iret eX10_take_68 ⟨Nat.zero_le _, Nat.zero_le _⟩ rfl (rfl) (⟨rfl, rfl, HR.deed ((C4 67 (by omega)).trans H_this) A2 ⟨f4, C1, ?_⟩ ⟨pf2, (C4 69 (by omega)).trans ((B2 69 (by omega)).trans A3), A4⟩ (b5.kept ((C4 70 (by omega)).trans ((B2 70 (by omega)).trans (A5 70 (by omega) (by omega))))) (b6.kept ((C4 71 (by omega)).trans ((B2 71 (by omega)).trans (A5 71 (by omega) (by omega)))) ((C4 72 (by omega)).trans ((B2 72 (by omega)).trans (A5 72 (by omega) (by omega))))) (b7.kept (fun k x y => (C4 k (by omega)).trans ((B2 k (by omega)).trans (A5 k (by omega) (by omega))))) (fun k z => (C4 k (by omega)).trans ((B2 k (by omega)).trans (A5 k (by omega) (by omega))))⟩)
        have hlen : ((T.1.take w ++ T.1.drop (w + 1)).length : Int) = (T.1.length : Int) - 1 := by
          rw [List.length_append, List.length_take, List.length_drop]
          omega
        refine ⟨by rw [hlen]; exact (C3.lo (by omega)).trans B3, (C3.lo (by omega)).trans ((B4 1 (by omega) (by omega)).trans m1), (C3.lo (by omega)).trans ((B4 2 (by omega) (by omega)).trans m2), (C3.lo (by omega)).trans ((B4 3 (by omega) (by omega)).trans m3), (C3.lo (by omega)).trans ((B4 4 (by omega) (by omega)).trans m4), fun x hx => ?_⟩
        have hx' : x < (T.1.take w ++ T.1.drop (w + 1)).length := hx
        show mw _ x ((T.1.take w ++ T.1.drop (w + 1))[x])
        rw [tx_del hc x hx']
        by_cases y1 : x < w
        · have yl : x < T.1.length := by omega
          rw [if_pos y1]
          simp only [List.getD_eq_getElem?_getD, List.getElem?_eq_getElem yl, Option.getD_some]
          exact C3.mw (B5 x yl (by omega)) (by omega) (by omega) (by omega) (hll x yl)
        · have yl : x + 1 < T.1.length := by omega
          rw [if_neg y1]
          simp only [List.getD_eq_getElem?_getD, List.getElem?_eq_getElem yl, Option.getD_some]
          exact C3.mw (B6 x yl (by omega) (by omega)) (by omega) (by omega) (by omega) (hll _ yl)
      · exact absurd (by omega) c_40
    | succ d ih =>
      intro k h3 f hwk hk B1 B2 B3 B4 B5 B6
      have H_this : h3 67 = _ := (B2 67 (by omega)).trans A1
      have H_this_st := B1
      have e3 : f (0 : Int).toNat = (T.1.length : Int) - 1 := B3
      have hx1 : k + 1 < T.1.length := by omega
      have TT := c_X10_moveWord (n := n) (w := k) (i := k + 1) H_this B1 (by omega) (by omega) (by omega) (hll _ hx1) (B5 _ hx1 (by omega))
      refine V_iload_n eX10_take_33 rfl rfl ?_
      refine V_aload_n eX10_take_34 rfl rfl ?_
      refine V_getf eX10_take_35 H_this rfl ?_
      refine V_iconst eX10_take_38 ?_
      refine V_iald eX10_take_39 H_this_st (by omega) ?_
      rw [e3]
      refine V_icmp_ge (tgt := 57) eX10_take_40 rfl (by omega) (fun c_40 => ?_) (fun c_40 => ?_)
      · exact absurd c_40 (by omega)
      · refine V_aload_n eX10_take_43 rfl rfl ?_
        refine V_iload_n eX10_take_44 rfl rfl ?_
        refine V_iload_n eX10_take_45 rfl rfl ?_
        refine V_iconst eX10_take_46 ?_
        refine V_iadd eX10_take_47 ?_
        refine V_cvg eX10_take_48 (TT) H_this rfl rfl (Nat.le_of_ble_eq_true rfl) ⟨rfl, rfl⟩ ⟨Nat.zero_le _, Nat.zero_le _⟩ (fun h4 ⟨⟨f4, C1, C2, C3⟩, C4⟩ => ?_)
        show eb_V _ _ 51 _ [] _ _ _
        refine V_iinc eX10_take_51 rfl rfl (eb_sS (eb_sS (eb_sS eb_s0))) ?_
        refine V_goto (tgt := 33) eX10_take_54 rfl ?_
        exact ih (k + 1) h4 f4 (by omega) (by omega) C1 (fun j z => (C4 j z).trans (B2 j z)) ((C3.lo (by omega)).trans B3) (fun j z1 z2 => (C3.lo z2).trans (B4 j z1 z2)) (fun x hx z => C3.mw (B5 x hx (by omega)) (by omega) (by omega) (by omega) (hll x hx)) (fun x hx z1 z2 => by
          by_cases y2 : x = k
          · subst y2; exact C2
          · exact C3.mw (B6 x hx z1 (by omega)) (by omega) (by omega) y2 (hll _ hx))
  refine V_aload_n eX10_take_0 rfl rfl ?_
  refine V_iload_n eX10_take_1 rfl rfl ?_
  refine V_cvi eX10_take_2 (c_X10_isWord (n := n) H_this H_this_st hm hN (by omega)) H_this rfl rfl (Nat.le_of_ble_eq_true rfl) ⟨rfl, rfl⟩ ⟨Nat.zero_le _, Nat.zero_le _⟩ ?_
  rw [if_pos (by omega)]
  refine V_if_ne (tgt := 11) eX10_take_5 rfl (by omega) (fun c_5 => ?_) (fun c_5 => ?_)
  · refine V_aload_n eX10_take_11 rfl rfl ?_
    refine V_cvg eX10_take_12 (TN) H_this rfl rfl (Nat.le_of_ble_eq_true rfl) ⟨rfl, rfl⟩ ⟨Nat.zero_le _, Nat.zero_le _⟩ (fun h2 ⟨⟨F1, pf2, F2, F3⟩, F4⟩ => ?_)
    show eb_V _ _ 15 _ [] _ _ _
    have H_this := F1
    have H_this_st : h2 68 = eb_ia 525 sf := (F4 68 (by omega) (by omega)).trans H_this_st
    refine V_aload_n eX10_take_15 rfl rfl ?_
    refine V_iload_n eX10_take_16 rfl rfl ?_
    refine V_cvi eX10_take_17 (c_X10_wordWidth (n := n) H_this H_this_st hm HT hc) H_this rfl rfl (Nat.le_of_ble_eq_true rfl) ⟨rfl, rfl⟩ ⟨Nat.zero_le _, Nat.zero_le _⟩ ?_
    rw [← eD]
    refine V_istore_n eX10_take_20 rfl (Nat.le_of_ble_eq_true rfl) rfl (eb_sS (eb_sS eb_s0)) ?_
    refine V_aload_n eX10_take_21 rfl rfl ?_
    refine V_getf eX10_take_22 H_this rfl ?_
    refine V_iconst eX10_take_25 ?_
    refine V_dup2 eX10_take_26 rfl rfl ?_
    refine V_iald eX10_take_27 H_this_st (by omega) ?_
    rw [e0]
    refine V_iconst eX10_take_28 ?_
    refine V_isub eX10_take_29 ?_
    refine V_iast eX10_take_30 H_this_st (by omega) ?_
    rw [show ((0 : Int)).toNat = 0 from rfl]
    refine V_iload_n eX10_take_31 rfl rfl ?_
    refine V_istore_n eX10_take_32 rfl (Nat.le_of_ble_eq_true rfl) rfl (eb_sS (eb_sS (eb_sS eb_s0))) ?_
    exact loop h2 _ pf2 F1 ⟨rfl, k3, k5, k6, k19, k21⟩ F2 F3 F4 (T.1.length - 1 - w) w _ _ (by omega) (by omega) eb_up_s (fun j z => eb_up_n z rfl) rfl (fun j z1 z2 => by unfold eb_set; rw [if_neg (by omega)]) (fun x hx z => mw.set0 (m5 x hx) (by omega)) (fun x hx z1 z2 => absurd z1 (by omega))
  · exact absurd c_5 (by decide)
theorem x10_measure_out {v : Int} (HR : MR h T ty fa past seed i0 i1 sees book) (HO : SOK T ty fa past seed i0 i1 sees book) (hv : -2147483648 ≤ v ∧ v ≤ 2147483647) (hc : ¬ (1 ≤ v ∧ v ≤ 200)) : eb_T mX10_measure [.ref 67, .int (eb_I v)] n h (eb_G (some (.int (eb_I (-1000000002)))) n (fun h' => MR h' T ty fa past seed i0 i1 sees book ∧ L67 h h')) := by
  obtain ⟨cc, HR⟩ := HR
  obtain ⟨H_this, K, ⟨sf, H_this_st, hm⟩, ⟨pf, H_this_past, hp⟩, ⟨tf, H_this_typed, htf⟩, ⟨⟨ns, H_this_newSizes⟩, nl, H_this_newLetters⟩, ⟨⟨wd, H_this_wide⟩, HM, ⟨be, H_this_begins⟩, wi, H_this_with⟩, ⟨se, H_this_seen, hse⟩, ⟨bo, H_this_book, hbo⟩, ⟨⟨bb, H_this_beginsBy⟩, ib, H_this_isBy⟩, imf, kp, H_this_images, H_this_isKept, hi0, hi1⟩ := id HR
  obtain ⟨b1, b2, b3, b4, b5, b6, b7, b8, b9, b10, b11⟩ := id HR
  obtain ⟨k2, k3, k5, k6, k19, k21⟩ := K
  obtain ⟨HT, hty, hfa, hpo, hsd, hg0, hg1, hsu, hbk⟩ := id HO
  have hN : T.1.length ≤ 40 := HT.1.1
  obtain ⟨m0, m1, m2, m3, m4, m5⟩ := id hm
  have e0 : sf (0 : Int).toNat = (T.1.length : Int) := hm.1
  refine eb_T.of (by decide +kernel) (Nat.le_of_ble_eq_true rfl) ?_
  show eb_V _ _ 0 [.ref 67, .int (eb_I v)] [] (n, 0, 0) h _
  refine V_aload_n eX10_measure_0 rfl rfl ?_
  refine V_iconst eX10_measure_1 ?_
  refine V_iload_n eX10_measure_2 rfl rfl ?_
  refine V_iconst eX10_measure_3 ?_
  refine V_sipush eX10_measure_4 (by decide) ?_
  refine V_cvi eX10_measure_7 (c_X10_becomes_out (n := n) (by omega) hc) H_this rfl rfl (Nat.le_of_ble_eq_true rfl) ⟨rfl, rfl⟩ ⟨Nat.zero_le _, Nat.zero_le _⟩ ?_
  exact V_iret eX10_measure_10 ⟨Nat.zero_le _, Nat.zero_le _⟩ rfl (rfl) (⟨rfl, rfl, ⟨cc, HR⟩, fun _ _ => rfl⟩)
theorem x10_measure_ok {v : Int} (HR : MR h T ty fa past seed i0 i1 sees book) (HO : SOK T ty fa past seed i0 i1 sees book) (hc : 1 ≤ v ∧ v ≤ 200) : eb_T mX10_measure [.ref 67, .int (eb_I v)] n h (eb_G (some (.int (eb_I (dp_t (lt_c (txq (T.1, v, T.2.2.1, T.2.2.2.1, T.2.2.2.2))) T.1.length)))) n (fun h' => MR h' (T.1, v, T.2.2.1, T.2.2.2.1, T.2.2.2.2) ty fa ((T :: past).take 16) seed i0 i1 sees book ∧ L67 h h')) := by
  obtain ⟨cc, HR⟩ := HR
  obtain ⟨H_this, K, ⟨sf, H_this_st, hm⟩, ⟨pf, H_this_past, hp⟩, ⟨tf, H_this_typed, htf⟩, ⟨⟨ns, H_this_newSizes⟩, nl, H_this_newLetters⟩, ⟨⟨wd, H_this_wide⟩, HM, ⟨be, H_this_begins⟩, wi, H_this_with⟩, ⟨se, H_this_seen, hse⟩, ⟨bo, H_this_book, hbo⟩, ⟨⟨bb, H_this_beginsBy⟩, ib, H_this_isBy⟩, imf, kp, H_this_images, H_this_isKept, hi0, hi1⟩ := id HR
  obtain ⟨b1, b2, b3, b4, b5, b6, b7, b8, b9, b10, b11⟩ := id HR
  obtain ⟨k2, k3, k5, k6, k19, k21⟩ := K
  obtain ⟨HT, hty, hfa, hpo, hsd, hg0, hg1, hsu, hbk⟩ := id HO
  have hN : T.1.length ≤ 40 := HT.1.1
  obtain ⟨m0, m1, m2, m3, m4, m5⟩ := id hm
  have e0 : sf (0 : Int).toNat = (T.1.length : Int) := hm.1
  refine eb_T.of (by decide +kernel) (Nat.le_of_ble_eq_true rfl) ?_
  show eb_V _ _ 0 [.ref 67, .int (eb_I v)] [] (n, 0, 0) h _
  have hT' : TX_ok (T.1, v, T.2.2.1, T.2.2.2.1, T.2.2.2.2) := ⟨⟨HT.1.1, hc, HT.1.2.2⟩, HT.2⟩
  have hm' : ms (eb_set sf 1 v) (T.1, v, T.2.2.1, T.2.2.2.1, T.2.2.2.2) := ⟨m0, rfl, m2, m3, m4, fun x hx => mw.set0 (m5 x hx) (by omega)⟩
  have TB := c_X10_becomes (n := n) (at_ := 1) (v := v) (lo := 1) (hi := 200) H_this H_this_st hm HT H_this_past k2 hp hpo H_this_wide HM (by omega) (by omega) (by omega) hm' hT'
  refine V_aload_n eX10_measure_0 rfl rfl ?_
  refine V_iconst eX10_measure_1 ?_
  refine V_iload_n eX10_measure_2 rfl rfl ?_
  refine V_iconst eX10_measure_3 ?_
  refine V_sipush eX10_measure_4 (by decide) ?_
  refine V_cvg eX10_measure_7 (TB) H_this rfl rfl (Nat.le_of_ble_eq_true rfl) ⟨rfl, rfl⟩ ⟨Nat.zero_le _, Nat.zero_le _⟩ (fun h1 ⟨⟨D1, D2, D3, D4, D5⟩, D6⟩ => ?_)
  show eb_V _ _ 10 _ [.int (eb_I _)] _ _ _
  exact V_iret eX10_measure_10 ⟨Nat.zero_le _, Nat.zero_le _⟩ rfl (rfl) (⟨rfl, rfl, HR.deed D1 ⟨rfl, k3, k5, k6, k19, k21⟩ D2 D3 (b5.kept (D6 70 (by omega) (by omega) (by omega) (by omega))) (b6.kept (D6 71 (by omega) (by omega) (by omega) (by omega)) (D6 72 (by omega) (by omega) (by omega) (by omega))) ⟨D5, D4, ⟨be, (D6 78 (by omega) (by omega) (by omega) (by omega)).trans H_this_begins⟩, wi, (D6 79 (by omega) (by omega) (by omega) (by omega)).trans H_this_with⟩ (fun k z => D6 k (by omega) (by omega) (by omega) (by omega))⟩)
theorem x10_rule_out {v : Int} (HR : MR h T ty fa past seed i0 i1 sees book) (HO : SOK T ty fa past seed i0 i1 sees book) (hv : -2147483648 ≤ v ∧ v ≤ 2147483647) (hc : ¬ (0 ≤ v ∧ v ≤ 4)) : eb_T mX10_rule [.ref 67, .int (eb_I v)] n h (eb_G (some (.int (eb_I (-1000000002)))) n (fun h' => MR h' T ty fa past seed i0 i1 sees book ∧ L67 h h')) := by
  obtain ⟨cc, HR⟩ := HR
  obtain ⟨H_this, K, ⟨sf, H_this_st, hm⟩, ⟨pf, H_this_past, hp⟩, ⟨tf, H_this_typed, htf⟩, ⟨⟨ns, H_this_newSizes⟩, nl, H_this_newLetters⟩, ⟨⟨wd, H_this_wide⟩, HM, ⟨be, H_this_begins⟩, wi, H_this_with⟩, ⟨se, H_this_seen, hse⟩, ⟨bo, H_this_book, hbo⟩, ⟨⟨bb, H_this_beginsBy⟩, ib, H_this_isBy⟩, imf, kp, H_this_images, H_this_isKept, hi0, hi1⟩ := id HR
  obtain ⟨b1, b2, b3, b4, b5, b6, b7, b8, b9, b10, b11⟩ := id HR
  obtain ⟨k2, k3, k5, k6, k19, k21⟩ := K
  obtain ⟨HT, hty, hfa, hpo, hsd, hg0, hg1, hsu, hbk⟩ := id HO
  have hN : T.1.length ≤ 40 := HT.1.1
  obtain ⟨m0, m1, m2, m3, m4, m5⟩ := id hm
  have e0 : sf (0 : Int).toNat = (T.1.length : Int) := hm.1
  refine eb_T.of (by decide +kernel) (Nat.le_of_ble_eq_true rfl) ?_
  show eb_V _ _ 0 [.ref 67, .int (eb_I v)] [] (n, 0, 0) h _
  refine V_aload_n eX10_rule_0 rfl rfl ?_
  refine V_iconst eX10_rule_1 ?_
  refine V_iload_n eX10_rule_2 rfl rfl ?_
  refine V_iconst eX10_rule_3 ?_
  refine V_iconst eX10_rule_4 ?_
  refine V_cvi eX10_rule_5 (c_X10_becomes_out (n := n) (by omega) hc) H_this rfl rfl (Nat.le_of_ble_eq_true rfl) ⟨rfl, rfl⟩ ⟨Nat.zero_le _, Nat.zero_le _⟩ ?_
  exact V_iret eX10_rule_8 ⟨Nat.zero_le _, Nat.zero_le _⟩ rfl (rfl) (⟨rfl, rfl, ⟨cc, HR⟩, fun _ _ => rfl⟩)
theorem x10_rule_ok {v : Int} (HR : MR h T ty fa past seed i0 i1 sees book) (HO : SOK T ty fa past seed i0 i1 sees book) (hc : 0 ≤ v ∧ v ≤ 4) : eb_T mX10_rule [.ref 67, .int (eb_I v)] n h (eb_G (some (.int (eb_I (dp_t (lt_c (txq (T.1, T.2.1, v, T.2.2.2.1, T.2.2.2.2))) T.1.length)))) n (fun h' => MR h' (T.1, T.2.1, v, T.2.2.2.1, T.2.2.2.2) ty fa ((T :: past).take 16) seed i0 i1 sees book ∧ L67 h h')) := by
  obtain ⟨cc, HR⟩ := HR
  obtain ⟨H_this, K, ⟨sf, H_this_st, hm⟩, ⟨pf, H_this_past, hp⟩, ⟨tf, H_this_typed, htf⟩, ⟨⟨ns, H_this_newSizes⟩, nl, H_this_newLetters⟩, ⟨⟨wd, H_this_wide⟩, HM, ⟨be, H_this_begins⟩, wi, H_this_with⟩, ⟨se, H_this_seen, hse⟩, ⟨bo, H_this_book, hbo⟩, ⟨⟨bb, H_this_beginsBy⟩, ib, H_this_isBy⟩, imf, kp, H_this_images, H_this_isKept, hi0, hi1⟩ := id HR
  obtain ⟨b1, b2, b3, b4, b5, b6, b7, b8, b9, b10, b11⟩ := id HR
  obtain ⟨k2, k3, k5, k6, k19, k21⟩ := K
  obtain ⟨HT, hty, hfa, hpo, hsd, hg0, hg1, hsu, hbk⟩ := id HO
  have hN : T.1.length ≤ 40 := HT.1.1
  obtain ⟨m0, m1, m2, m3, m4, m5⟩ := id hm
  have e0 : sf (0 : Int).toNat = (T.1.length : Int) := hm.1
  refine eb_T.of (by decide +kernel) (Nat.le_of_ble_eq_true rfl) ?_
  show eb_V _ _ 0 [.ref 67, .int (eb_I v)] [] (n, 0, 0) h _
  have hT' : TX_ok (T.1, T.2.1, v, T.2.2.2.1, T.2.2.2.2) := ⟨⟨HT.1.1, HT.1.2.1, hc, HT.1.2.2.2⟩, HT.2⟩
  have hm' : ms (eb_set sf 2 v) (T.1, T.2.1, v, T.2.2.2.1, T.2.2.2.2) := ⟨m0, m1, rfl, m3, m4, fun x hx => mw.set0 (m5 x hx) (by omega)⟩
  have TB := c_X10_becomes (n := n) (at_ := 2) (v := v) (lo := 0) (hi := 4) H_this H_this_st hm HT H_this_past k2 hp hpo H_this_wide HM (by omega) (by omega) (by omega) hm' hT'
  refine V_aload_n eX10_rule_0 rfl rfl ?_
  refine V_iconst eX10_rule_1 ?_
  refine V_iload_n eX10_rule_2 rfl rfl ?_
  refine V_iconst eX10_rule_3 ?_
  refine V_iconst eX10_rule_4 ?_
  refine V_cvg eX10_rule_5 (TB) H_this rfl rfl (Nat.le_of_ble_eq_true rfl) ⟨rfl, rfl⟩ ⟨Nat.zero_le _, Nat.zero_le _⟩ (fun h1 ⟨⟨D1, D2, D3, D4, D5⟩, D6⟩ => ?_)
  show eb_V _ _ 8 _ [.int (eb_I _)] _ _ _
  exact V_iret eX10_rule_8 ⟨Nat.zero_le _, Nat.zero_le _⟩ rfl (rfl) (⟨rfl, rfl, HR.deed D1 ⟨rfl, k3, k5, k6, k19, k21⟩ D2 D3 (b5.kept (D6 70 (by omega) (by omega) (by omega) (by omega))) (b6.kept (D6 71 (by omega) (by omega) (by omega) (by omega)) (D6 72 (by omega) (by omega) (by omega) (by omega))) ⟨D5, D4, ⟨be, (D6 78 (by omega) (by omega) (by omega) (by omega)).trans H_this_begins⟩, wi, (D6 79 (by omega) (by omega) (by omega) (by omega)).trans H_this_with⟩ (fun k z => D6 k (by omega) (by omega) (by omega) (by omega))⟩)
theorem x10_fee_out {v : Int} (HR : MR h T ty fa past seed i0 i1 sees book) (HO : SOK T ty fa past seed i0 i1 sees book) (hv : -2147483648 ≤ v ∧ v ≤ 2147483647) (hc : ¬ (0 ≤ v ∧ v ≤ 99)) : eb_T mX10_fee [.ref 67, .int (eb_I v)] n h (eb_G (some (.int (eb_I (-1000000002)))) n (fun h' => MR h' T ty fa past seed i0 i1 sees book ∧ L67 h h')) := by
  obtain ⟨cc, HR⟩ := HR
  obtain ⟨H_this, K, ⟨sf, H_this_st, hm⟩, ⟨pf, H_this_past, hp⟩, ⟨tf, H_this_typed, htf⟩, ⟨⟨ns, H_this_newSizes⟩, nl, H_this_newLetters⟩, ⟨⟨wd, H_this_wide⟩, HM, ⟨be, H_this_begins⟩, wi, H_this_with⟩, ⟨se, H_this_seen, hse⟩, ⟨bo, H_this_book, hbo⟩, ⟨⟨bb, H_this_beginsBy⟩, ib, H_this_isBy⟩, imf, kp, H_this_images, H_this_isKept, hi0, hi1⟩ := id HR
  obtain ⟨b1, b2, b3, b4, b5, b6, b7, b8, b9, b10, b11⟩ := id HR
  obtain ⟨k2, k3, k5, k6, k19, k21⟩ := K
  obtain ⟨HT, hty, hfa, hpo, hsd, hg0, hg1, hsu, hbk⟩ := id HO
  have hN : T.1.length ≤ 40 := HT.1.1
  obtain ⟨m0, m1, m2, m3, m4, m5⟩ := id hm
  have e0 : sf (0 : Int).toNat = (T.1.length : Int) := hm.1
  refine eb_T.of (by decide +kernel) (Nat.le_of_ble_eq_true rfl) ?_
  show eb_V _ _ 0 [.ref 67, .int (eb_I v)] [] (n, 0, 0) h _
  refine V_aload_n eX10_fee_0 rfl rfl ?_
  refine V_iconst eX10_fee_1 ?_
  refine V_iload_n eX10_fee_2 rfl rfl ?_
  refine V_iconst eX10_fee_3 ?_
  refine V_bipush eX10_fee_4 (by decide) ?_
  refine V_cvi eX10_fee_6 (c_X10_becomes_out (n := n) (by omega) hc) H_this rfl rfl (Nat.le_of_ble_eq_true rfl) ⟨rfl, rfl⟩ ⟨Nat.zero_le _, Nat.zero_le _⟩ ?_
  exact V_iret eX10_fee_9 ⟨Nat.zero_le _, Nat.zero_le _⟩ rfl (rfl) (⟨rfl, rfl, ⟨cc, HR⟩, fun _ _ => rfl⟩)
theorem x10_fee_ok {v : Int} (HR : MR h T ty fa past seed i0 i1 sees book) (HO : SOK T ty fa past seed i0 i1 sees book) (hc : 0 ≤ v ∧ v ≤ 99) : eb_T mX10_fee [.ref 67, .int (eb_I v)] n h (eb_G (some (.int (eb_I (dp_t (lt_c (txq (T.1, T.2.1, T.2.2.1, v, T.2.2.2.2))) T.1.length)))) n (fun h' => MR h' (T.1, T.2.1, T.2.2.1, v, T.2.2.2.2) ty fa ((T :: past).take 16) seed i0 i1 sees book ∧ L67 h h')) := by
  obtain ⟨cc, HR⟩ := HR
  obtain ⟨H_this, K, ⟨sf, H_this_st, hm⟩, ⟨pf, H_this_past, hp⟩, ⟨tf, H_this_typed, htf⟩, ⟨⟨ns, H_this_newSizes⟩, nl, H_this_newLetters⟩, ⟨⟨wd, H_this_wide⟩, HM, ⟨be, H_this_begins⟩, wi, H_this_with⟩, ⟨se, H_this_seen, hse⟩, ⟨bo, H_this_book, hbo⟩, ⟨⟨bb, H_this_beginsBy⟩, ib, H_this_isBy⟩, imf, kp, H_this_images, H_this_isKept, hi0, hi1⟩ := id HR
  obtain ⟨b1, b2, b3, b4, b5, b6, b7, b8, b9, b10, b11⟩ := id HR
  obtain ⟨k2, k3, k5, k6, k19, k21⟩ := K
  obtain ⟨HT, hty, hfa, hpo, hsd, hg0, hg1, hsu, hbk⟩ := id HO
  have hN : T.1.length ≤ 40 := HT.1.1
  obtain ⟨m0, m1, m2, m3, m4, m5⟩ := id hm
  have e0 : sf (0 : Int).toNat = (T.1.length : Int) := hm.1
  refine eb_T.of (by decide +kernel) (Nat.le_of_ble_eq_true rfl) ?_
  show eb_V _ _ 0 [.ref 67, .int (eb_I v)] [] (n, 0, 0) h _
  have hT' : TX_ok (T.1, T.2.1, T.2.2.1, v, T.2.2.2.2) := ⟨⟨HT.1.1, HT.1.2.1, HT.1.2.2.1, hc, HT.1.2.2.2.2⟩, HT.2⟩
  have hm' : ms (eb_set sf 3 v) (T.1, T.2.1, T.2.2.1, v, T.2.2.2.2) := ⟨m0, m1, m2, rfl, m4, fun x hx => mw.set0 (m5 x hx) (by omega)⟩
  have TB := c_X10_becomes (n := n) (at_ := 3) (v := v) (lo := 0) (hi := 99) H_this H_this_st hm HT H_this_past k2 hp hpo H_this_wide HM (by omega) (by omega) (by omega) hm' hT'
  refine V_aload_n eX10_fee_0 rfl rfl ?_
  refine V_iconst eX10_fee_1 ?_
  refine V_iload_n eX10_fee_2 rfl rfl ?_
  refine V_iconst eX10_fee_3 ?_
  refine V_bipush eX10_fee_4 (by decide) ?_
  refine V_cvg eX10_fee_6 (TB) H_this rfl rfl (Nat.le_of_ble_eq_true rfl) ⟨rfl, rfl⟩ ⟨Nat.zero_le _, Nat.zero_le _⟩ (fun h1 ⟨⟨D1, D2, D3, D4, D5⟩, D6⟩ => ?_)
  show eb_V _ _ 9 _ [.int (eb_I _)] _ _ _
  exact V_iret eX10_fee_9 ⟨Nat.zero_le _, Nat.zero_le _⟩ rfl (rfl) (⟨rfl, rfl, HR.deed D1 ⟨rfl, k3, k5, k6, k19, k21⟩ D2 D3 (b5.kept (D6 70 (by omega) (by omega) (by omega) (by omega))) (b6.kept (D6 71 (by omega) (by omega) (by omega) (by omega)) (D6 72 (by omega) (by omega) (by omega) (by omega))) ⟨D5, D4, ⟨be, (D6 78 (by omega) (by omega) (by omega) (by omega)).trans H_this_begins⟩, wi, (D6 79 (by omega) (by omega) (by omega) (by omega)).trans H_this_with⟩ (fun k z => D6 k (by omega) (by omega) (by omega) (by omega))⟩)
theorem x10_free_ok {v : Int} (HR : MR h T ty fa past seed i0 i1 sees book) (HO : SOK T ty fa past seed i0 i1 sees book) (hc : 0 ≤ v ∧ v ≤ 1) : eb_T mX10_free [.ref 67, .int (eb_I v)] n h (eb_G (some (.int (eb_I (dp_t (lt_c (txq (T.1, T.2.1, T.2.2.1, T.2.2.2.1, v))) T.1.length)))) n (fun h' => MR h' (T.1, T.2.1, T.2.2.1, T.2.2.2.1, v) ty fa ((T :: past).take 16) seed i0 i1 sees book ∧ L67 h h')) := by
  obtain ⟨cc, HR⟩ := HR
  obtain ⟨H_this, K, ⟨sf, H_this_st, hm⟩, ⟨pf, H_this_past, hp⟩, ⟨tf, H_this_typed, htf⟩, ⟨⟨ns, H_this_newSizes⟩, nl, H_this_newLetters⟩, ⟨⟨wd, H_this_wide⟩, HM, ⟨be, H_this_begins⟩, wi, H_this_with⟩, ⟨se, H_this_seen, hse⟩, ⟨bo, H_this_book, hbo⟩, ⟨⟨bb, H_this_beginsBy⟩, ib, H_this_isBy⟩, imf, kp, H_this_images, H_this_isKept, hi0, hi1⟩ := id HR
  obtain ⟨b1, b2, b3, b4, b5, b6, b7, b8, b9, b10, b11⟩ := id HR
  obtain ⟨k2, k3, k5, k6, k19, k21⟩ := K
  obtain ⟨HT, hty, hfa, hpo, hsd, hg0, hg1, hsu, hbk⟩ := id HO
  have hN : T.1.length ≤ 40 := HT.1.1
  obtain ⟨m0, m1, m2, m3, m4, m5⟩ := id hm
  have e0 : sf (0 : Int).toNat = (T.1.length : Int) := hm.1
  refine eb_T.of (by decide +kernel) (Nat.le_of_ble_eq_true rfl) ?_
  show eb_V _ _ 0 [.ref 67, .int (eb_I v)] [] (n, 0, 0) h _
  have hT' : TX_ok (T.1, T.2.1, T.2.2.1, T.2.2.2.1, v) := ⟨⟨HT.1.1, HT.1.2.1, HT.1.2.2.1, HT.1.2.2.2.1, (show v = 0 ∨ v = 1 by omega)⟩, HT.2⟩
  have hm' : ms (eb_set sf 4 v) (T.1, T.2.1, T.2.2.1, T.2.2.2.1, v) := ⟨m0, m1, m2, m3, rfl, fun x hx => mw.set0 (m5 x hx) (by omega)⟩
  have TB := c_X10_becomes (n := n) (at_ := 4) (v := v) (lo := 0) (hi := 1) H_this H_this_st hm HT H_this_past k2 hp hpo H_this_wide HM (by omega) (by omega) (by omega) hm' hT'
  by_cases y : v = 0
  · subst y
    refine V_aload_n eX10_free_0 rfl rfl ?_
    refine V_iconst eX10_free_1 ?_
    refine V_iload_n eX10_free_2 rfl rfl ?_
    refine V_if_eq (tgt := 10) eX10_free_3 rfl (by omega) (fun c_3 => ?_) (fun c_3 => ?_)
    · refine V_iconst eX10_free_10 ?_
      refine V_iconst eX10_free_11 ?_
      refine V_iconst eX10_free_12 ?_
      refine V_cvg eX10_free_13 (TB) H_this rfl rfl (Nat.le_of_ble_eq_true rfl) ⟨rfl, rfl⟩ ⟨Nat.zero_le _, Nat.zero_le _⟩ (fun h1 ⟨⟨D1, D2, D3, D4, D5⟩, D6⟩ => ?_)
      show eb_V _ _ 16 _ [.int (eb_I _)] _ _ _
      exact V_iret eX10_free_16 ⟨Nat.zero_le _, Nat.zero_le _⟩ rfl (rfl) (⟨rfl, rfl, HR.deed D1 ⟨rfl, k3, k5, k6, k19, k21⟩ D2 D3 (b5.kept (D6 70 (by omega) (by omega) (by omega) (by omega))) (b6.kept (D6 71 (by omega) (by omega) (by omega) (by omega)) (D6 72 (by omega) (by omega) (by omega) (by omega))) ⟨D5, D4, ⟨be, (D6 78 (by omega) (by omega) (by omega) (by omega)).trans H_this_begins⟩, wi, (D6 79 (by omega) (by omega) (by omega) (by omega)).trans H_this_with⟩ (fun k z => D6 k (by omega) (by omega) (by omega) (by omega))⟩)
    · exact absurd rfl c_3
  · have y1 : v = 1 := by omega
    subst y1
    refine V_aload_n eX10_free_0 rfl rfl ?_
    refine V_iconst eX10_free_1 ?_
    refine V_iload_n eX10_free_2 rfl rfl ?_
    refine V_if_eq (tgt := 10) eX10_free_3 rfl (by omega) (fun c_3 => ?_) (fun c_3 => ?_)
    · exact absurd c_3 (by decide)
    · refine V_iconst eX10_free_6 ?_
      refine V_goto (tgt := 11) eX10_free_7 rfl ?_
      refine V_iconst eX10_free_11 ?_
      refine V_iconst eX10_free_12 ?_
      refine V_cvg eX10_free_13 (TB) H_this rfl rfl (Nat.le_of_ble_eq_true rfl) ⟨rfl, rfl⟩ ⟨Nat.zero_le _, Nat.zero_le _⟩ (fun h1 ⟨⟨D1, D2, D3, D4, D5⟩, D6⟩ => ?_)
      show eb_V _ _ 16 _ [.int (eb_I _)] _ _ _
      exact V_iret eX10_free_16 ⟨Nat.zero_le _, Nat.zero_le _⟩ rfl (rfl) (⟨rfl, rfl, HR.deed D1 ⟨rfl, k3, k5, k6, k19, k21⟩ D2 D3 (b5.kept (D6 70 (by omega) (by omega) (by omega) (by omega))) (b6.kept (D6 71 (by omega) (by omega) (by omega) (by omega)) (D6 72 (by omega) (by omega) (by omega) (by omega))) ⟨D5, D4, ⟨be, (D6 78 (by omega) (by omega) (by omega) (by omega)).trans H_this_begins⟩, wi, (D6 79 (by omega) (by omega) (by omega) (by omega)).trans H_this_with⟩ (fun k z => D6 k (by omega) (by omega) (by omega) (by omega))⟩)
end M13
