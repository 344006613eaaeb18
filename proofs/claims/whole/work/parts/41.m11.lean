def mK (c : Nat → Int) (ty : List Nat) (fa : Int) (past : List TX) (seed : Int) (sees : List (Nat × Bool)) (book : List (Int × Int)) : Prop := c 2 = (past.length : Int) ∧ c 3 = seed ∧ c 5 = (ty.length : Int) ∧ c 6 = fa ∧ c 19 = (sees.length : Int) ∧ c 21 = (book.length : Int)
def mst (h : eb_H) (T : TX) : Prop := ∃ sf, h 68 = eb_ia 525 sf ∧ ms sf T
def mpa (h : eb_H) (past : List TX) : Prop := ∃ pf, h 69 = eb_ia 8400 pf ∧ mp pf past
def mty (h : eb_H) (ty : List Nat) : Prop := ∃ tf : Nat → Int, h 70 = eb_ia 240 tf ∧ ∀ k (hk : k < ty.length), tf k = (ty[k] : Int)
def mnn (h : eb_H) : Prop := (∃ ns, h 71 = eb_ia 40 ns) ∧ ∃ nl, h 72 = eb_ia 480 nl
def mX (h : eb_H) : Prop := (∃ wd, h 73 = eb_ia 40 wd) ∧ mlany h ∧ (∃ be, h 78 = eb_ia 42 be) ∧ ∃ f, h 79 = eb_ia 41 f
def msee (h : eb_H) (sees : List (Nat × Bool)) : Prop := ∃ se : Nat → Int, h 80 = eb_ia 12 se ∧ ∀ k (hk : k < sees.length), se (2 * k) = (sees[k].1 : Int) ∧ se (2 * k + 1) = if sees[k].2 then 1 else 0
def mbo (h : eb_H) (es : List (Int × Int)) : Prop := ∃ bo : Nat → Int, h 81 = eb_ia 40 bo ∧ ∀ k (hk : k < es.length), bo (2 * k) = es[k].1 ∧ bo (2 * k + 1) = es[k].2
def mby (h : eb_H) : Prop := (∃ bb, h 82 = eb_la 201 bb) ∧ ∃ ib, h 83 = eb_za 201 ib
def mim (f kp : Nat → Int) (i : Nat) (I : Option (TX × Int)) : Prop := match I with
  | none => kp i = 0
  | some q => kp i = 1 ∧ ms (fun k => f (526 * i + k)) q.1 ∧ f (526 * i + 525) = q.2
def mig (h : eb_H) (i0 i1 : Option (TX × Int)) : Prop := ∃ f kp : Nat → Int, h 84 = eb_ia 1052 f ∧ h 85 = eb_za 2 kp ∧ mim f kp 0 i0 ∧ mim f kp 1 i1
def MRc (c : Nat → Int) (h : eb_H) (T : TX) (ty : List Nat) (fa : Int) (past : List TX) (seed : Int) (i0 i1 : Option (TX × Int)) (sees : List (Nat × Bool)) (book : List (Int × Int)) : Prop := h 67 = mo c ∧ mK c ty fa past seed sees book ∧ mst h T ∧ mpa h past ∧ mty h ty ∧ mnn h ∧ mX h ∧ msee h sees ∧ mbo h book ∧ mby h ∧ mig h i0 i1
def MR (h : eb_H) (T : TX) (ty : List Nat) (fa : Int) (past : List TX) (seed : Int) (i0 i1 : Option (TX × Int)) (sees : List (Nat × Bool)) (book : List (Int × Int)) : Prop := ∃ c, MRc c h T ty fa past seed i0 i1 sees book
def L67 (h h' : eb_H) : Prop := ∀ k, k < 67 → h' k = h k
theorem mst.kept {h h' : eb_H} {T : TX} (H : mst h T) (e : h' 68 = h 68) : mst h' T := by unfold mst; rw [e]; exact H
theorem mpa.kept {h h' : eb_H} {p : List TX} (H : mpa h p) (e : h' 69 = h 69) : mpa h' p := by unfold mpa; rw [e]; exact H
theorem mty.kept {h h' : eb_H} {p : List Nat} (H : mty h p) (e : h' 70 = h 70) : mty h' p := by unfold mty; rw [e]; exact H
theorem mnn.kept {h h' : eb_H} (H : mnn h) (e : h' 71 = h 71) (e2 : h' 72 = h 72) : mnn h' := by unfold mnn; rw [e, e2]; exact H
theorem mX.kept {h h' : eb_H} (H : mX h) (e : ∀ k, 73 ≤ k → k ≤ 79 → h' k = h k) : mX h' := by
  obtain ⟨⟨wd, a⟩, b, ⟨be, c⟩, f, d⟩ := H
  exact ⟨⟨wd, (e 73 (by omega) (by omega)).trans a⟩, b.kept (fun k x y => e k (by omega) (by omega)), ⟨be, (e 78 (by omega) (by omega)).trans c⟩, f, (e 79 (by omega) (by omega)).trans d⟩
theorem msee.kept {h h' : eb_H} {p : List (Nat × Bool)} (H : msee h p) (e : h' 80 = h 80) : msee h' p := by unfold msee; rw [e]; exact H
theorem mbo.kept {h h' : eb_H} {p : List (Int × Int)} (H : mbo h p) (e : h' 81 = h 81) : mbo h' p := by unfold mbo; rw [e]; exact H
theorem mby.kept {h h' : eb_H} (H : mby h) (e : h' 82 = h 82) (e2 : h' 83 = h 83) : mby h' := by unfold mby; rw [e, e2]; exact H
theorem mig.kept {h h' : eb_H} {p q : Option (TX × Int)} (H : mig h p q) (e : h' 84 = h 84) (e2 : h' 85 = h 85) : mig h' p q := by unfold mig; rw [e, e2]; exact H
theorem mK.re {c c' : Nat → Int} {ty : List Nat} {fa : Int} {past : List TX} {seed : Int} {sees : List (Nat × Bool)} {book : List (Int × Int)} (H : mK c ty fa past seed sees book) (m : mk c c') : mK c' ty fa past seed sees book := by
  obtain ⟨a1, a2, a3, a4, a5, a6⟩ := H
  obtain ⟨b1, b2, b3, b4, b5, b6⟩ := m
  exact ⟨b1.trans a1, b2.trans a2, b3.trans a3, b4.trans a4, b5.trans a5, b6.trans a6⟩
section M11
variable {n : Nat} {h h' : eb_H} {c c' : Nat → Int} {sf : Nat → Int} {T : TX} {ty : List Nat} {fa : Int} {past : List TX} {seed : Int} {i0 i1 : Option (TX × Int)} {sees : List (Nat × Bool)} {book : List (Int × Int)}
theorem MRc.re (HR : MRc c h T ty fa past seed i0 i1 sees book) (e : h' 67 = mo c') (m : mk c c') (hk : ∀ k, (68 ≤ k ∧ k ≤ 72) ∨ k = 80 ∨ k = 81 ∨ k = 84 ∨ k = 85 → h' k = h k) (x : mX h') (b : mby h') : MR h' T ty fa past seed i0 i1 sees book := by
  obtain ⟨a1, a2, a3, a4, a5, a6, a7, a8, a9, a10, a11⟩ := HR
  exact ⟨c', e, a2.re m, a3.kept (hk _ (by omega)), a4.kept (hk _ (by omega)), a5.kept (hk _ (by omega)), a6.kept (hk _ (by omega)) (hk _ (by omega)), x, a8.kept (hk _ (by omega)), a9.kept (hk _ (by omega)), b, a11.kept (hk _ (by omega)) (hk _ (by omega))⟩
theorem MRc.layed (HR : MRc c h T ty fa past seed i0 i1 sees book) (HM : mlany h') (HW : ∃ wd, h' 73 = eb_ia 40 wd) (hk : ∀ k, (k < 73 ∨ 77 < k) → h' k = h k) : MR h' T ty fa past seed i0 i1 sees book ∧ L67 h h' := by
  obtain ⟨a1, a2, a3, a4, a5, a6, a7, a8, a9, a10, a11⟩ := id HR
  obtain ⟨x1, x2, ⟨be, x3⟩, f, x4⟩ := a7
  exact ⟨HR.re ((hk 67 (by omega)).trans a1) ⟨rfl, rfl, rfl, rfl, rfl, rfl⟩ (fun k q => hk k (by omega)) ⟨HW, HM, ⟨be, (hk 78 (by omega)).trans x3⟩, f, (hk 79 (by omega)).trans x4⟩ (a10.kept (hk _ (by omega)) (hk _ (by omega))), fun k q => hk k (by omega)⟩
theorem MRc.lined {lm : Int} (HR : MRc c h T ty fa past seed i0 i1 sees book) (e : h' 67 = mo (eb_set c 16 lm)) (HM : mlany h') (HW : ∃ wd, h' 73 = eb_ia 40 wd) (HB : ∃ be, h' 78 = eb_ia 42 be) (hk : ∀ k, (k < 73 ∨ 78 < k) → k ≠ 67 → h' k = h k) : MR h' T ty fa past seed i0 i1 sees book ∧ L67 h h' := by
  obtain ⟨a1, a2, a3, a4, a5, a6, a7, a8, a9, a10, a11⟩ := id HR
  obtain ⟨x1, x2, ⟨be, x3⟩, f, x4⟩ := a7
  exact ⟨HR.re e ⟨rfl, rfl, rfl, rfl, rfl, rfl⟩ (fun k q => hk k (by omega) (by omega)) ⟨HW, HM, HB, f, (hk 79 (by omega) (by omega)).trans x4⟩ (a10.kept (hk _ (by omega) (by omega)) (hk _ (by omega) (by omega))), fun k q => hk k (by omega) (by omega)⟩
theorem MRc.lines (HR : MRc c h T ty fa past seed i0 i1 sees book) (H : mlines h' T c) (hk : ∀ k, (k < 73 ∨ 78 < k) → k ≠ 67 → h' k = h k) : MR h' T ty fa past seed i0 i1 sees book ∧ L67 h h' := by
  obtain ⟨⟨a, be, b, -⟩, d, wd, e, -⟩ := H
  exact HR.lined a d.any ⟨wd, e⟩ ⟨be, b⟩ hk
theorem MRc.bys (HR : MRc c h T ty fa past seed i0 i1 sees book) (e : h' 67 = mo c') (m : mk c c') (HM : mlany h') (HW : ∃ wd, h' 73 = eb_ia 40 wd) (HB : ∃ be, h' 78 = eb_ia 42 be) (H2 : ∃ bb, h' 82 = eb_la 201 bb) (H3 : ∃ ib, h' 83 = eb_za 201 ib) (hk : ∀ k, (k < 73 ∨ 78 < k) → k ≠ 67 → k ≠ 82 → k ≠ 83 → h' k = h k) : MR h' T ty fa past seed i0 i1 sees book ∧ L67 h h' := by
  obtain ⟨a1, a2, a3, a4, a5, a6, a7, a8, a9, a10, a11⟩ := id HR
  obtain ⟨x1, x2, ⟨be, x3⟩, f, x4⟩ := a7
  exact ⟨HR.re e m (fun k q => hk k (by omega) (by omega) (by omega) (by omega)) ⟨HW, HM, HB, f, (hk 79 (by omega) (by omega) (by omega) (by omega)).trans x4⟩ ⟨H2, H3⟩, fun k q => hk k (by omega) (by omega) (by omega) (by omega)⟩
theorem mw.set0 {f : Nat → Int} {w : Nat} {l : List Nat} {a : Nat} {x : Int} (H : mw f w l) (ha : a < 5) : mw (eb_set f a x) w l := ⟨by unfold eb_set; rw [if_neg (by omega)]; exact H.1, fun k hk => by unfold eb_set; rw [if_neg (by omega)]; exact H.2 k hk⟩
theorem oth.lo {f f' : Nat → Int} {w j : Nat} (H : oth f f' w) (hj : j < 5) : f' j = f j := H j (by omega) (by omega)
theorem c_X10_putIn {ns nl : Nat → Int} {w : Nat} {l : List Nat} (H_this : h 67 = mo c) (H_this_st : h 68 = eb_ia 525 sf) (hm : ms sf T) (HO : TX_ok T) (H_ns : h 71 = eb_ia 40 ns) (H_nl : h 72 = eb_ia 480 nl) (hw : w ≤ T.1.length) (hN : T.1.length < 40) (hl : l.length ≤ 12) (hnw : nw ns nl 0 l) : eb_T mX10_putIn [.ref 67, .int (eb_I (w : Int))] n h (eb_G none n (fun h' => (∃ f, h' 68 = eb_ia 525 f ∧ ms f (T.1.take w ++ l :: T.1.drop w, T.2)) ∧ ∀ k, k ≠ 68 → h' k = h k)) := by
  refine eb_T.of (by decide +kernel) (Nat.le_of_ble_eq_true rfl) ?_
  show eb_V _ _ 0 [.ref 67, .int (eb_I (w : Int)), eb_no] [] (n, 0, 0) h _
  obtain ⟨m0, m1, m2, m3, m4, m5⟩ := id hm
  have e0 : sf (0 : Int).toNat = (T.1.length : Int) := m0
  have hll : ∀ x (hx : x < T.1.length), T.1[x].length ≤ 12 := fun x hx => (HO.2 _ (List.getElem_mem hx)).1.2
  have loop : ∀ (d : Nat) (h1 : eb_H) (f : Nat → Int), w + d ≤ T.1.length → h1 68 = eb_ia 525 f → (∀ j, j ≠ 68 → h1 j = h j) → (∀ j, j < 5 → f j = sf j) → (∀ x (hx : x < T.1.length), x < w + d → mw f x T.1[x]) → (∀ x (hx : x < T.1.length), w + d ≤ x → mw f (x + 1) T.1[x]) → eb_V mX10_putIn (fun _ _ _ => True) 7 [.ref 67, .int (eb_I (w : Int)), .int (eb_I ((w + d : Nat) : Int))] [] (n, 0, 0) h1 (eb_R mX10_putIn (eb_G none n (fun h' => (∃ f, h' 68 = eb_ia 525 f ∧ ms f (T.1.take w ++ l :: T.1.drop w, T.2)) ∧ ∀ k, k ≠ 68 → h' k = h k))) := by
    intro d
    induction d with
    | zero =>
      intro h1 f hd A1 A2 A3 A4 A5
      have H_this1 : h1 67 = mo c := (A2 67 (by omega)).trans H_this
      have TT := c_X10_takeWord (n := n) (i := 0) H_this1 A1 ((A2 71 (by omega)).trans H_ns) ((A2 72 (by omega)).trans H_nl) (show w < 40 by omega) (by omega) hl hnw
      refine V_iload_n eX10_putIn_7 rfl rfl ?_
      refine V_iload_n eX10_putIn_8 rfl rfl ?_
      refine V_icmp_le (tgt := 26) eX10_putIn_9 rfl (by omega) (fun c_9 => ?_) (fun c_9 => ?_)
      · refine V_aload_n eX10_putIn_26 rfl rfl ?_
        refine V_iload_n eX10_putIn_27 rfl rfl ?_
        refine V_iconst eX10_putIn_28 ?_
        refine V_cvg eX10_putIn_29 (TT) H_this1 rfl rfl (Nat.le_of_ble_eq_true rfl) ⟨rfl, rfl⟩ ⟨Nat.zero_le _, Nat.zero_le _⟩ (fun h2 ⟨⟨f2, B1, B2, B3⟩, B4⟩ => ?_)
        show eb_V _ _ 32 _ [] _ _ _
        have H_this : h2 67 = mo c := (B4 67 (by omega)).trans H_this1
        have H_this_st := B1
        have e2 : f2 (0 : Int).toNat = (T.1.length : Int) := (B3.lo (by omega)).trans ((A3 0 (by omega)).trans m0)
        refine V_aload_n eX10_putIn_32 rfl rfl ?_
        refine V_getf eX10_putIn_33 H_this rfl ?_
        refine V_iconst eX10_putIn_36 ?_
        refine V_dup2 eX10_putIn_37 rfl rfl ?_
        refine V_iald eX10_putIn_38 H_this_st (by omega) ?_
        rw [e2]
        refine V_iconst eX10_putIn_39 ?_
        refine V_iadd eX10_putIn_40 ?_
        refine V_iast eX10_putIn_41 H_this_st (by omega) ?_
        rw [show ((0 : Int)).toNat = 0 from rfl]
        refine V_vret eX10_putIn_42 ⟨Nat.zero_le _, Nat.zero_le _⟩ rfl (⟨rfl, rfl, ⟨_, eb_up_s, ?_⟩, fun k z => eb_up_n z ((B4 k z).trans (A2 k z))⟩)
        have hlen : ((T.1.take w ++ l :: T.1.drop w).length : Int) = (T.1.length : Int) + 1 := by
          rw [List.length_append, List.length_cons, List.length_take, List.length_drop]
          omega
        refine ⟨by rw [hlen]; rfl, (B3.lo (by omega)).trans ((A3 1 (by omega)).trans m1), (B3.lo (by omega)).trans ((A3 2 (by omega)).trans m2), (B3.lo (by omega)).trans ((A3 3 (by omega)).trans m3), (B3.lo (by omega)).trans ((A3 4 (by omega)).trans m4), fun x hx => ?_⟩
        have hx' : x < (T.1.take w ++ l :: T.1.drop w).length := hx
        show mw _ x ((T.1.take w ++ l :: T.1.drop w)[x])
        rw [tx_ins hw x hx']
        by_cases y1 : x < w
        · have yl : x < T.1.length := by omega
          rw [if_pos y1]
          simp only [List.getD_eq_getElem?_getD, List.getElem?_eq_getElem yl, Option.getD_some]
          exact (B3.mw (A4 x yl (by omega)) (by omega) (by omega) (by omega) (hll x yl)).set0 (by omega)
        · rw [if_neg y1]
          by_cases y2 : x = w
          · subst y2
            rw [if_pos rfl]
            exact B2.set0 (by omega)
          · have yl : x - 1 < T.1.length := by omega
            rw [if_neg y2]
            simp only [List.getD_eq_getElem?_getD, List.getElem?_eq_getElem yl, Option.getD_some]
            have := A5 (x - 1) yl (by omega)
            rw [show x - 1 + 1 = x by omega] at this
            exact (B3.mw this (by omega) (by omega) (by omega) (hll _ yl)).set0 (by omega)
      · exact absurd (by omega) c_9
    | succ d ih =>
      intro h1 f hd A1 A2 A3 A4 A5
      have H_this1 : h1 67 = mo c := (A2 67 (by omega)).trans H_this
      have hx : w + d < T.1.length := by omega
      have TT := c_X10_moveWord (n := n) (w := w + (d + 1)) (i := w + d) H_this1 A1 (by omega) (by omega) (by omega) (hll _ hx) (A4 _ hx (by omega))
      refine V_iload_n eX10_putIn_7 rfl rfl ?_
      refine V_iload_n eX10_putIn_8 rfl rfl ?_
      refine V_icmp_le (tgt := 26) eX10_putIn_9 rfl (by omega) (fun c_9 => ?_) (fun c_9 => ?_)
      · exact absurd c_9 (by omega)
      · refine V_aload_n eX10_putIn_12 rfl rfl ?_
        refine V_iload_n eX10_putIn_13 rfl rfl ?_
        refine V_iload_n eX10_putIn_14 rfl rfl ?_
        refine V_iconst eX10_putIn_15 ?_
        refine V_isub eX10_putIn_16 ?_
        refine V_eqI (b := ((w + d : Nat) : Int)) (by omega) ?_
        refine V_cvg eX10_putIn_17 (TT) H_this1 rfl rfl (Nat.le_of_ble_eq_true rfl) ⟨rfl, rfl⟩ ⟨Nat.zero_le _, Nat.zero_le _⟩ (fun h2 ⟨⟨f2, B1, B2, B3⟩, B4⟩ => ?_)
        show eb_V _ _ 20 _ [] _ _ _
        refine V_iinc eX10_putIn_20 rfl rfl (eb_sS (eb_sS eb_s0)) ?_
        refine V_goto (tgt := 7) eX10_putIn_23 rfl ?_
        have nx := ih h2 f2 (by omega) B1 (fun j z => (B4 j z).trans (A2 j z)) (fun j z => (B3.lo z).trans (A3 j z)) (fun x hx z => B3.mw (A4 x hx (by omega)) (by omega) (by omega) (by omega) (hll x hx)) (fun x hx2 z => by
          by_cases y : x = w + d
          · subst y
            exact B2
          · exact B3.mw (A5 x hx2 (by omega)) (by omega) (by omega) (by omega) (hll x hx2))
        rw [show ((w + d : Nat) : Int) = ((w + (d + 1) : Nat) : Int) + -1 by omega] at nx
        exact nx
  refine V_aload_n eX10_putIn_0 rfl rfl ?_
  refine V_getf eX10_putIn_1 H_this rfl ?_
  refine V_iconst eX10_putIn_4 ?_
  refine V_iald eX10_putIn_5 H_this_st (by omega) ?_
  rw [e0]
  refine V_istore_n eX10_putIn_6 rfl (Nat.le_of_ble_eq_true rfl) rfl (eb_sS (eb_sS eb_s0)) ?_
  have nx := loop (T.1.length - w) h sf (by omega) H_this_st (fun _ _ => rfl) (fun _ _ => rfl) (fun x hx _ => m5 x hx) (fun x hx z => absurd z (by omega))
  rw [show w + (T.1.length - w) = T.1.length by omega] at nx
  exact nx
theorem c_X10_becomes_out {at_ v lo hi : Int} (hr : (-2147483648 ≤ v ∧ v ≤ 2147483647) ∧ (-2147483648 ≤ lo ∧ lo ≤ 2147483647) ∧ (-2147483648 ≤ hi ∧ hi ≤ 2147483647)) (hc : ¬ (lo ≤ v ∧ v ≤ hi)) : eb_T mX10_becomes [.ref 67, .int (eb_I at_), .int (eb_I v), .int (eb_I lo), .int (eb_I hi)] n h (eb_X (some (.int (eb_I (-1000000002)))) n h) := by
  refine eb_T.of (by decide +kernel) (Nat.le_of_ble_eq_true rfl) ?_
  show eb_V _ _ 0 [.ref 67, .int (eb_I at_), .int (eb_I v), .int (eb_I lo), .int (eb_I hi)] [] (n, 0, 0) h _
  refine V_iload_n eX10_becomes_0 rfl rfl ?_
  refine V_i2lI eX10_becomes_1 (by omega) ?_
  refine V_iload_n eX10_becomes_2 rfl rfl ?_
  refine V_i2lI eX10_becomes_3 (by omega) ?_
  refine V_iload eX10_becomes_4 rfl ?_
  refine V_i2lI eX10_becomes_6 (by omega) ?_
  refine V_csi eX10_becomes_7 (c_X10_in (by omega)) rfl rfl (Nat.le_of_ble_eq_true rfl) ⟨rfl, rfl⟩ ⟨Nat.zero_le _, Nat.zero_le _⟩ ?_
  rw [if_neg hc]
  refine V_if_ne (tgt := 16) eX10_becomes_10 rfl (by omega) (fun c_10 => ?_) (fun c_10 => ?_)
  · exact absurd rfl c_10
  · refine V_ldc (a := -1000000002) eX10_becomes_13 wd_801 (by decide) ?_
    exact V_iret eX10_becomes_15 ⟨Nat.zero_le _, Nat.zero_le _⟩ rfl (rfl) (⟨rfl, rfl, rfl⟩)
theorem c_X10_becomes {at_ : Nat} {v lo hi : Int} {pf wd : Nat → Int} {T' : TX} (H_this : h 67 = mo c) (H_this_st : h 68 = eb_ia 525 sf) (hm : ms sf T) (HO : TX_ok T) (H_pa : h 69 = eb_ia 8400 pf) (h2 : c 2 = (past.length : Int)) (hp : mp pf past) (hpo : past.length ≤ 16 ∧ ∀ T ∈ past, TX_ok T) (H_wd : h 73 = eb_ia 40 wd) (HM : mlany h) (hr : (-2147483648 ≤ v ∧ v ≤ 2147483647) ∧ (-2147483648 ≤ lo ∧ lo ≤ 2147483647) ∧ (-2147483648 ≤ hi ∧ hi ≤ 2147483647)) (hc : lo ≤ v ∧ v ≤ hi) (ha : at_ < 525) (hm' : ms (eb_set sf at_ v) T') (HO' : TX_ok T') : eb_T mX10_becomes [.ref 67, .int (eb_I (at_ : Int)), .int (eb_I v), .int (eb_I lo), .int (eb_I hi)] n h (eb_G (some (.int (eb_I (dp_t (lt_c (txq T')) T'.1.length)))) n (fun h' => (h' 67 = mo (eb_set c 2 (((T :: past).take 16).length : Int)) ∧ mst h' T' ∧ mpa h' ((T :: past).take 16) ∧ mlany h' ∧ ∃ wd, h' 73 = eb_ia 40 wd) ∧ ∀ k, (k < 73 ∨ 77 < k) → k ≠ 67 → k ≠ 68 → k ≠ 69 → h' k = h k)) := by
  refine eb_T.of (by decide +kernel) (Nat.le_of_ble_eq_true rfl) ?_
  show eb_V _ _ 0 [.ref 67, .int (eb_I (at_ : Int)), .int (eb_I v), .int (eb_I lo), .int (eb_I hi)] [] (n, 0, 0) h _
  have TN := c_X10_note (n := n) H_this H_this_st hm HO H_pa h2 hp hpo
  have TT : ∀ h2 : eb_H, h2 67 = mo (eb_set c 2 (((T :: past).take 16).length : Int)) → h2 68 = eb_ia 525 (eb_set sf at_ v) → h2 73 = eb_ia 40 wd → mlany h2 → _ := fun h2 a1 a2 a3 a4 => c_X10_total (n := n) a1 a2 hm' HO' a3 a4
  refine V_iload_n eX10_becomes_0 rfl rfl ?_
  refine V_i2lI eX10_becomes_1 (by omega) ?_
  refine V_iload_n eX10_becomes_2 rfl rfl ?_
  refine V_i2lI eX10_becomes_3 (by omega) ?_
  refine V_iload eX10_becomes_4 rfl ?_
  refine V_i2lI eX10_becomes_6 (by omega) ?_
  refine V_csi eX10_becomes_7 (c_X10_in (by omega)) rfl rfl (Nat.le_of_ble_eq_true rfl) ⟨rfl, rfl⟩ ⟨Nat.zero_le _, Nat.zero_le _⟩ ?_
  rw [if_pos hc]
  refine V_if_ne (tgt := 16) eX10_becomes_10 rfl (by omega) (fun c_10 => ?_) (fun c_10 => ?_)
  · refine V_aload_n eX10_becomes_16 rfl rfl ?_
    refine V_cvg eX10_becomes_17 (TN) H_this rfl rfl (Nat.le_of_ble_eq_true rfl) ⟨rfl, rfl⟩ ⟨Nat.zero_le _, Nat.zero_le _⟩ (fun h1 ⟨⟨A1, pf1, A2, A3⟩, A4⟩ => ?_)
    show eb_V _ _ 20 _ [] _ _ _
    have H_this := A1
    have H_this_st : h1 68 = _ := (A4 68 (by omega) (by omega)).trans H_this_st
    refine V_aload_n eX10_becomes_20 rfl rfl ?_
    refine V_getf eX10_becomes_21 H_this rfl ?_
    refine V_iload_n eX10_becomes_24 rfl rfl ?_
    refine V_iload_n eX10_becomes_25 rfl rfl ?_
    refine V_iast eX10_becomes_26 H_this_st (by omega) ?_
    rw [Int.toNat_natCast]
    refine V_aload_n eX10_becomes_27 rfl rfl ?_
    refine V_cvg eX10_becomes_28 (TT _ (eb_up_n (by omega) H_this) eb_up_s (eb_up_n (by omega) ((A4 73 (by omega) (by omega)).trans H_wd)) (HM.kept (fun k x y => eb_up_n (by omega) (A4 k (by omega) (by omega))))) (eb_up_n (by omega) H_this) rfl rfl (Nat.le_of_ble_eq_true rfl) ⟨rfl, rfl⟩ ⟨Nat.zero_le _, Nat.zero_le _⟩ (fun h3 ⟨⟨D1, D2⟩, D3⟩ => ?_)
    show eb_V _ _ 31 _ [.int (eb_I _)] _ _ _
    exact V_iret eX10_becomes_31 ⟨Nat.zero_le _, Nat.zero_le _⟩ rfl (rfl) (⟨rfl, rfl, ⟨(D3 67 (by omega)).trans (eb_up_n (by omega) H_this), ⟨_, (D3 68 (by omega)).trans eb_up_s, hm'⟩, ⟨pf1, (D3 69 (by omega)).trans (eb_up_n (by omega) A2), A3⟩, D1, D2⟩, fun k z1 z2 z3 z4 => (D3 k z1).trans (eb_up_n z3 (A4 k z2 z4))⟩)
  · exact absurd c_10 (by decide)
end M11
