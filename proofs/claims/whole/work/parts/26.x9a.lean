/-! EvenBreaks: its cells -/
abbrev x9_obj : va_E := .inr (8, [.ref 1, .ref 3, .ref 6, .ref 40, .ref 41, .ref 46, .ref 52, .ref 58, .ref 42])
def xo (h : eb_H) : Prop := h 0 = x9_obj ∧ ∃ f : Nat → Option Nat, h 41 = eb_qa 4 2 f ∧ f 0 = some 61 ∧ f 1 = some 64
abbrev im_obj (a : Nat) (st kept : Int) : va_E := .inr (2, [.ref (a + 1), .int (eb_I st), .int (eb_I kept)])
def im (h : eb_H) (a : Nat) (I : Option (TX × Int)) : Prop := match I with
  | none => (∃ st, h a = im_obj a st 0) ∧ tx_any h (a + 1)
  | some q => h a = im_obj a q.2 1 ∧ tx h (a + 1) q.1
def now (h : eb_H) (T : TX) : Prop := ∃ ro, ly_sv h 46 45 T.1.length (tx_wf T.1) T.2.1 T.2.2.1 T.2.2.2.1 T.2.2.2.2 ro
def lyany (h : eb_H) (b : Nat) : Prop := ∃ (N : Nat) (me law fee fr lines : Int) (bg : Nat) (pl to ow lb ro : Nat → Int), ly_at h b 45 N me law fee fr lines bg pl to ow lb ro
def TXq (T : TX) (m : Nat) : lt_Q := su_by T.1.length (tx_wf T.1) T.2.2.1 T.2.2.2.1 T.2.2.2.2 m
def filled (T : TX) (tb bf : Nat → Int) : Prop := ∀ m, 1 ≤ m → m ≤ 200 → tb m = dp_t (lt_c (TXq T m)) T.1.length ∧ bf m = (br_mk (lt_B (TXq T m)) : Int)
def suany (h : eb_H) (sees : List (Nat × Bool)) : Prop := ∃ (fresh : Int) (tb bf : Nat → Int), su_at h 58 fresh sees tb bf
def sur (h : eb_H) (T : TX) (sees : List (Nat × Bool)) : Prop := ∃ (fresh : Int) (tb bf : Nat → Int), su_at h 58 fresh sees tb bf ∧ (fresh = 0 ∨ (fresh = 1 ∧ filled T tb bf))
def ag (h h' : eb_H) (lo hi : Nat) : Prop := ∀ k, lo ≤ k → k ≤ hi → h' k = h k
theorem ly_at.kept {h h' : eb_H} {b rt N bg : Nat} {me law fee fr lines : Int} {pl to ow lb ro : Nat → Int} (H : ly_at h b rt N me law fee fr lines bg pl to ow lb ro) (h1 : h' rt = h rt) (h2 : ag h h' b (b + 5)) : ly_at h' b rt N me law fee fr lines bg pl to ow lb ro := by
  obtain ⟨a0, a1, a2, a3, a4, a5, a6⟩ := H
  exact ⟨(h2 _ (by omega) (by omega)).trans a0, (h2 _ (by omega) (by omega)).trans a1, (h2 _ (by omega) (by omega)).trans a2, (h2 _ (by omega) (by omega)).trans a3, (h2 _ (by omega) (by omega)).trans a4, (h2 _ (by omega) (by omega)).trans a5, h1.trans a6⟩
theorem xo.kept {h h' : eb_H} (H : xo h) (h0 : h' 0 = h 0) (h1 : h' 41 = h 41) : xo h' := by
  obtain ⟨a, f, b, c, d⟩ := H
  exact ⟨h0.trans a, f, h1.trans b, c, d⟩
theorem tx.kept {h h' : eb_H} {t : Nat} {T : TX} (H : tx h t T) (k : ag h h' t (t + 1)) : tx h' t T := tx_at.kept H (k _ (by omega) (by omega)) (k _ (by omega) (by omega))
theorem ty_at.kept {h h' : eb_H} {t : Nat} {cs : List Nat} {fa : Int} (H : ty_at h t cs fa) (k : ag h h' t (t + 2)) : ty_at h' t cs fa := by
  obtain ⟨wc, lf, g, a, b, c, d⟩ := H
  exact ⟨wc, lf, g, (k _ (by omega) (by omega)).trans a, (k _ (by omega) (by omega)).trans b, (k _ (by omega) (by omega)).trans c, d⟩
theorem bk_at.kept {h h' : eb_H} {t : Nat} {es : List (Int × Int)} (H : bk_at h t es) (k : ag h h' t (t + 2)) : bk_at h' t es := by
  obtain ⟨f, g, a, b, c, d⟩ := H
  exact ⟨f, g, (k _ (by omega) (by omega)).trans a, (k _ (by omega) (by omega)).trans b, (k _ (by omega) (by omega)).trans c, d⟩
theorem now.kept {h h' : eb_H} {T : TX} (H : now h T) (k : ag h h' 45 51) : now h' T := by
  obtain ⟨ro, pl, to, ow, lb, a, b⟩ := H
  exact ⟨ro, pl, to, ow, lb, a.kept (k _ (by omega) (by omega)) (fun x x1 x2 => k x (by omega) (by omega)), b⟩
theorem lyany.kept {h h' : eb_H} {b : Nat} (H : lyany h b) (h1 : h' 45 = h 45) (k : ag h h' b (b + 5)) : lyany h' b := by
  obtain ⟨N, me, law, fee, fr, lines, bg, pl, to, ow, lb, ro, a⟩ := H
  exact ⟨N, me, law, fee, fr, lines, bg, pl, to, ow, lb, ro, a.kept h1 k⟩
theorem su_at.kept {h h' : eb_H} {s : Nat} {fresh : Int} {sees : List (Nat × Bool)} {tb bf : Nat → Int} (H : su_at h s fresh sees tb bf) (k : ag h h' s (s + 2)) : su_at h' s fresh sees tb bf := by
  obtain ⟨a, b, c⟩ := H
  exact ⟨(k _ (by omega) (by omega)).trans a, (k _ (by omega) (by omega)).trans b, (k _ (by omega) (by omega)).trans c⟩
theorem sur.kept {h h' : eb_H} {T : TX} {sees : List (Nat × Bool)} (H : sur h T sees) (k : ag h h' 58 60) : sur h' T sees := by
  obtain ⟨fresh, tb, bf, a, b⟩ := H
  exact ⟨fresh, tb, bf, a.kept k, b⟩
theorem im.kept {h h' : eb_H} {a : Nat} {I : Option (TX × Int)} (H : im h a I) (k : ag h h' a (a + 2)) : im h' a I := by
  cases I with
  | none => exact ⟨by obtain ⟨st, q⟩ := H.1; exact ⟨st, (k _ (by omega) (by omega)).trans q⟩, H.2.kept (k _ (by omega) (by omega)) (k _ (by omega) (by omega))⟩
  | some q => exact ⟨(k _ (by omega) (by omega)).trans H.1, tx.kept H.2 (fun x x1 x2 => k x (by omega) (by omega))⟩
theorem im.any {h : eb_H} {a : Nat} {I : Option (TX × Int)} (H : im h a I) : tx_any h (a + 1) := by
  cases I with
  | none => exact H.2
  | some q => exact tx_at.any H.2
theorem now.any {h : eb_H} {T : TX} (H : now h T) : lyany h 46 := by
  obtain ⟨ro, pl, to, ow, lb, a, b⟩ := H
  exact ⟨_, _, _, _, _, _, _, pl, to, ow, lb, ro, a⟩
theorem sur.any {h : eb_H} {T : TX} {sees : List (Nat × Bool)} (H : sur h T sees) : suany h sees := by
  obtain ⟨fresh, tb, bf, a, b⟩ := H
  exact ⟨fresh, tb, bf, a⟩
/-- the whole system's cells, for a state of the document -/
def XR (h : eb_H) (T : TX) (ty : List Nat) (fa : Int) (past : List TX) (seed : Int) (i0 i1 : Option (TX × Int)) (sees : List (Nat × Bool)) (book : List (Int × Int)) : Prop := xo h ∧ tx h 1 T ∧ ty_at h 3 ty fa ∧ pa_at h 6 past ∧ h 40 = dr_obj seed ∧ bk_at h 42 book ∧ now h T ∧ lyany h 52 ∧ sur h T sees ∧ im h 61 i0 ∧ im h 64 i1
def img_ok (I : Option (TX × Int)) : Prop := ∀ q, I = some q → TX_ok q.1 ∧ (0 ≤ q.2 ∧ q.2 ≤ 2147483647)
def SOK (T : TX) (ty : List Nat) (fa : Int) (past : List TX) (seed : Int) (i0 i1 : Option (TX × Int)) (sees : List (Nat × Bool)) (book : List (Int × Int)) : Prop := TX_ok T ∧ (ty.length ≤ 240 ∧ ∀ c ∈ ty, c ≤ 255) ∧ (-1 ≤ fa ∧ fa ≤ 240) ∧ (past.length ≤ 16 ∧ ∀ T ∈ past, TX_ok T) ∧ (0 ≤ seed ∧ seed ≤ 2147483647) ∧ img_ok i0 ∧ img_ok i1 ∧ su_ok sees ∧ bk_ok book
section X9A
variable {n : Nat} {h : eb_H} {T : TX} {sees : List (Nat × Bool)} {seed : Int}
theorem c_X9_layAnew (HX : xo h) (HT : tx h 1 T) (HO : TX_ok T) (HN : lyany h 46) (HS : suany h sees) : eb_T mX9_layAnew [.ref 0] n h (eb_G none n (fun h' => (now h' T ∧ ∃ tb bf, su_at h' 58 0 sees tb bf) ∧ ∀ k, (k < 46 ∨ 51 < k) → k ≠ 58 → h' k = h k)) := by
  refine eb_T.of (by decide +kernel) (Nat.le_of_ble_eq_true rfl) ?_
  show eb_V _ _ 0 [.ref 0] [] (n, 0, 0) h _
  have H_this := HX.1
  obtain ⟨N0, me0, la0, fe0, fr0, li0, bg0, pl0, to0, ow0, lb0, ro0, HL⟩ := HN
  obtain ⟨fresh, tb, bf, HS⟩ := HS
  have H_this_now := HL.1
  refine V_aload_n eX9_layAnew_0 rfl rfl ?_
  refine V_getf eX9_layAnew_1 H_this rfl ?_
  refine V_aload_n eX9_layAnew_4 rfl rfl ?_
  refine V_getf eX9_layAnew_5 H_this rfl ?_
  refine V_cvg eX9_layAnew_8 (c_X3_load HL (by omega) HT HO (by omega)) H_this_now rfl rfl (Nat.le_of_ble_eq_true rfl) ⟨rfl, rfl⟩ ⟨Nat.zero_le _, Nat.zero_le _⟩ (fun h1 ⟨⟨pl1, HL1, hpl1⟩, hfr1⟩ => ?_)
  show eb_V _ _ 11 _ [] _ _ _
  have H_this : h1 0 = _ := (hfr1 0 (by omega)).trans H_this
  have H_this_now := HL1.1
  refine V_aload_n eX9_layAnew_11 rfl rfl ?_
  refine V_getf eX9_layAnew_12 H_this rfl ?_
  refine V_cvg eX9_layAnew_15 (c_X3_solve HL1 (by omega) (tx_lok HO) hpl1) H_this_now rfl rfl (Nat.le_of_ble_eq_true rfl) ⟨rfl, rfl⟩ ⟨Nat.zero_le _, Nat.zero_le _⟩ (fun h2 ⟨SV, hfr2⟩ => ?_)
  show eb_V _ _ 18 _ [] _ _ _
  have H_this : h2 0 = _ := (hfr2 0 (by omega)).trans H_this
  have kp : ∀ k, (k < 46 ∨ 51 < k) → h2 k = h k := fun k hk => (hfr2 k (by omega)).trans (hfr1 k (by omega))
  have HS2 : su_at h2 58 fresh sees tb bf := HS.kept (fun k k1 k2 => kp k (by omega))
  have H_this_survey := HS2.1
  refine V_aload_n eX9_layAnew_18 rfl rfl ?_
  refine V_getf eX9_layAnew_19 H_this rfl ?_
  refine V_iconst eX9_layAnew_22 ?_
  refine V_putf eX9_layAnew_23 H_this_survey (eb_fitZ (Or.inl rfl)) (eb_sS (eb_sS eb_s0)) (Nat.le_of_ble_eq_true rfl) ?_
  refine V_vret eX9_layAnew_26 ⟨Nat.zero_le _, Nat.zero_le _⟩ rfl (⟨rfl, rfl, ⟨now.kept (h := h2) ⟨ro0, SV⟩ (fun k k1 k2 => by rw [eb_up, if_neg (by omega)]), tb, bf, eb_up_s, eb_up_n (by omega) HS2.2.1, eb_up_n (by omega) HS2.2.2⟩, fun k k1 k2 => by rw [eb_up, if_neg k2]; exact kp k k1⟩)
theorem c_X9_surveyed (HX : xo h) (HT : tx h 1 T) (HO : TX_ok T) (HL : lyany h 52) (HS : sur h T sees) : eb_T mX9_surveyed [.ref 0] n h (eb_G (some (.ref 58)) n (fun h' => ((∃ tb bf, su_at h' 58 1 sees tb bf ∧ filled T tb bf) ∧ lyany h' 52) ∧ ∀ k, (k < 52 ∨ 60 < k) → h' k = h k)) := by
  refine eb_T.of (by decide +kernel) (Nat.le_of_ble_eq_true rfl) ?_
  show eb_V _ _ 0 [.ref 0] [] (n, 0, 0) h _
  have H_this := HX.1
  have HL0 := HL
  obtain ⟨N0, me0, la0, fe0, fr0, li0, bg0, pl0, to0, ow0, lb0, ro0, HL⟩ := HL
  obtain ⟨fresh, tb, bf, HS, hfs⟩ := HS
  have H_this_survey := HS.1
  have H_this_trial := HL.1
  rcases hfs with rfl | ⟨rfl, hfl⟩
  · refine V_aload_n eX9_surveyed_0 rfl rfl ?_
    refine V_getf eX9_surveyed_1 H_this rfl ?_
    refine V_getf eX9_surveyed_4 H_this_survey rfl ?_
    refine V_if_ne (tgt := 32) eX9_surveyed_7 rfl (by omega) (fun c_7 => ?_) (fun c_7 => ?_)
    · exact absurd rfl c_7
    · refine V_aload_n eX9_surveyed_10 rfl rfl ?_
      refine V_getf eX9_surveyed_11 H_this rfl ?_
      refine V_aload_n eX9_surveyed_14 rfl rfl ?_
      refine V_getf eX9_surveyed_15 H_this rfl ?_
      refine V_cvg eX9_surveyed_18 (c_X3_load HL (by omega) HT HO (by omega)) H_this_trial rfl rfl (Nat.le_of_ble_eq_true rfl) ⟨rfl, rfl⟩ ⟨Nat.zero_le _, Nat.zero_le _⟩ (fun h1 ⟨⟨pl1, HL1, hpl1⟩, hfr1⟩ => ?_)
      show eb_V _ _ 21 _ [] _ _ _
      have H_this : h1 0 = _ := (hfr1 0 (by omega)).trans H_this
      have HS1 : su_at h1 58 0 sees tb bf := HS.kept (fun k k1 k2 => hfr1 k (by omega))
      have H_this_survey := HS1.1
      refine V_aload_n eX9_surveyed_21 rfl rfl ?_
      refine V_getf eX9_surveyed_22 H_this rfl ?_
      refine V_aload_n eX9_surveyed_25 rfl rfl ?_
      refine V_getf eX9_surveyed_26 H_this rfl ?_
      refine V_cvg eX9_surveyed_29 (c_X6_fill HS1 HL1 (by omega) (tx_lok HO) hpl1 (by omega) (by omega)) H_this_survey rfl rfl (Nat.le_of_ble_eq_true rfl) ⟨rfl, rfl⟩ ⟨Nat.zero_le _, Nat.zero_le _⟩ (fun h2 ⟨⟨⟨tb2, bf2, HS2, hfl2⟩, me2, li2, bg2, pl2, to2, ow2, lb2, ro2, HL2⟩, hfr2⟩ => ?_)
      show eb_V _ _ 32 _ [] _ _ _
      have H_this : h2 0 = _ := (hfr2 0 (by omega)).trans H_this
      refine V_aload_n eX9_surveyed_32 rfl rfl ?_
      refine V_getf eX9_surveyed_33 H_this rfl ?_
      exact V_aret eX9_surveyed_36 ⟨Nat.zero_le _, Nat.zero_le _⟩ rfl (Or.inl ⟨_, rfl⟩) (⟨rfl, rfl, ⟨⟨tb2, bf2, HS2, hfl2⟩, _, me2, _, _, _, li2, bg2, pl2, to2, ow2, lb2, ro2, HL2⟩, fun k hk => (hfr2 k (by omega)).trans (hfr1 k (by omega))⟩)
  · refine V_aload_n eX9_surveyed_0 rfl rfl ?_
    refine V_getf eX9_surveyed_1 H_this rfl ?_
    refine V_getf eX9_surveyed_4 H_this_survey rfl ?_
    refine V_if_ne (tgt := 32) eX9_surveyed_7 rfl (by omega) (fun c_7 => ?_) (fun c_7 => ?_)
    · refine V_aload_n eX9_surveyed_32 rfl rfl ?_
      refine V_getf eX9_surveyed_33 H_this rfl ?_
      exact V_aret eX9_surveyed_36 ⟨Nat.zero_le _, Nat.zero_le _⟩ rfl (Or.inl ⟨_, rfl⟩) (⟨rfl, rfl, ⟨⟨tb, bf, HS, hfl⟩, HL0⟩, fun k hk => rfl⟩)
    · exact absurd c_7 (by omega)
def tyR (h : eb_H) (R : Nat × Int × List (List Nat)) : Prop := ∃ (wc : Int) (lf g : Nat → Int), h 3 = ty_obj 3 0 wc R.2.1 ∧ h 4 = eb_ia 240 lf ∧ h 5 = eb_la 40 g ∧ (R.1 = 0 → wc = R.2.2.length ∧ ∀ w (hw : w < R.2.2.length), g w = (sp_enc R.2.2[w] : Int))
theorem tyR.at {h : eb_H} {R : Nat × Int × List (List Nat)} (H : tyR h R) : ty_at h 3 [] R.2.1 := by
  obtain ⟨wc, lf, g, a, b, c, d⟩ := H
  exact ⟨wc, lf, g, a, b, c, fun k hk => absurd hk (by simp)⟩
theorem tyR.kept {h h' : eb_H} {R : Nat × Int × List (List Nat)} (H : tyR h R) (k : ag h h' 3 5) : tyR h' R := by
  obtain ⟨wc, lf, g, a, b, c, d⟩ := H
  exact ⟨wc, lf, g, (k _ (by omega) (by omega)).trans a, (k _ (by omega) (by omega)).trans b, (k _ (by omega) (by omega)).trans c, d⟩
def rd1 (R : Nat × Int × List (List Nat)) : Int := if R.1 ≠ 0 then -10 - (R.1 : Int) else if R.2.2.length = 1 then 0 else -1000000003
theorem c_X9_readOneWord {ty : List Nat} {fa : Int} (HX : xo h) (HY : ty_at h 3 ty fa) (hy : ty.length ≤ 240 ∧ ∀ c ∈ ty, c ≤ 255) : eb_T mX9_readOneWord [.ref 0] n h (eb_G (some (.int (eb_I (rd1 (rd ty 0 [] 0))))) n (fun h' => tyR h' (rd ty 0 [] 0) ∧ ty_fr h h' 3)) := by
  refine eb_T.of (by decide +kernel) (Nat.le_of_ble_eq_true rfl) ?_
  show eb_V _ _ 0 [.ref 0, eb_no] [] (n, 0, 0) h _
  have H_this := HX.1
  have Tr := c_X8_read (n := n) HY hy.1 hy.2
  have hok := rd_ok ty 0 [] 0 rd_inv_0
  generalize rd ty 0 [] 0 = R at Tr hok ⊢
  obtain ⟨wc0, lf0, g0, H_this_typed, -⟩ := HY
  have hl := hok.1.1
  have hf3 := hok.2.1
  unfold rd1
  by_cases c : R.1 ≠ 0
  · rw [if_pos c]
    refine V_aload_n eX9_readOneWord_0 rfl rfl ?_
    refine V_getf eX9_readOneWord_1 H_this rfl ?_
    refine V_cvg eX9_readOneWord_4 (Tr) H_this_typed rfl rfl (Nat.le_of_ble_eq_true rfl) ⟨rfl, rfl⟩ ⟨Nat.zero_le _, Nat.zero_le _⟩ (fun h1 ⟨HR, hfr1⟩ => ?_)
    show eb_V _ _ 7 _ [.int (eb_I (R.1 : Nat))] _ _ _
    refine V_istore_n eX9_readOneWord_7 rfl (Nat.le_of_ble_eq_true rfl) rfl (eb_sS eb_s0) ?_
    refine V_iload_n eX9_readOneWord_8 rfl rfl ?_
    refine V_if_eq (tgt := 17) eX9_readOneWord_9 rfl (by omega) (fun c_9 => ?_) (fun c_9 => ?_)
    · exact absurd c_9 (by omega)
    · refine V_bipush eX9_readOneWord_12 (by decide) ?_
      refine V_iload_n eX9_readOneWord_14 rfl rfl ?_
      refine V_isub eX9_readOneWord_15 ?_
      exact V_iret eX9_readOneWord_16 ⟨Nat.zero_le _, Nat.zero_le _⟩ rfl (rfl) (⟨rfl, rfl, HR, hfr1⟩)
  · rw [if_neg c]
    have c0 : R.1 = 0 := by omega
    by_cases c1 : R.2.2.length = 1
    · rw [if_pos c1]
      refine V_aload_n eX9_readOneWord_0 rfl rfl ?_
      refine V_getf eX9_readOneWord_1 H_this rfl ?_
      refine V_cvg eX9_readOneWord_4 (Tr) H_this_typed rfl rfl (Nat.le_of_ble_eq_true rfl) ⟨rfl, rfl⟩ ⟨Nat.zero_le _, Nat.zero_le _⟩ (fun h1 ⟨⟨wc, lf, g, K0, K1, K2, K3⟩, hfr1⟩ => ?_)
      show eb_V _ _ 7 _ [.int (eb_I (R.1 : Nat))] _ _ _
      have H_this : h1 0 = _ := (hfr1 0 (by omega)).trans H_this
      have H_this_typed := K0
      have hwc := (K3 c0).1
      refine V_istore_n eX9_readOneWord_7 rfl (Nat.le_of_ble_eq_true rfl) rfl (eb_sS eb_s0) ?_
      refine V_iload_n eX9_readOneWord_8 rfl rfl ?_
      refine V_if_eq (tgt := 17) eX9_readOneWord_9 rfl (by omega) (fun c_9 => ?_) (fun c_9 => ?_)
      · refine V_aload_n eX9_readOneWord_17 rfl rfl ?_
        refine V_getf eX9_readOneWord_18 H_this rfl ?_
        refine V_getf eX9_readOneWord_21 H_this_typed rfl ?_
        refine V_iconst eX9_readOneWord_24 ?_
        refine V_icmp_ne (tgt := 32) eX9_readOneWord_25 rfl (by omega) (fun c_25 => ?_) (fun c_25 => ?_)
        · exact absurd c_25 (by omega)
        · refine V_iconst eX9_readOneWord_28 ?_
          refine V_goto (tgt := 34) eX9_readOneWord_29 rfl ?_
          exact V_iret eX9_readOneWord_34 ⟨Nat.zero_le _, Nat.zero_le _⟩ rfl (rfl) (⟨rfl, rfl, ⟨wc, lf, g, K0, K1, K2, K3⟩, hfr1⟩)
      · exact absurd (by omega) c_9
    · rw [if_neg c1]
      refine V_aload_n eX9_readOneWord_0 rfl rfl ?_
      refine V_getf eX9_readOneWord_1 H_this rfl ?_
      refine V_cvg eX9_readOneWord_4 (Tr) H_this_typed rfl rfl (Nat.le_of_ble_eq_true rfl) ⟨rfl, rfl⟩ ⟨Nat.zero_le _, Nat.zero_le _⟩ (fun h1 ⟨⟨wc, lf, g, K0, K1, K2, K3⟩, hfr1⟩ => ?_)
      show eb_V _ _ 7 _ [.int (eb_I (R.1 : Nat))] _ _ _
      have H_this : h1 0 = _ := (hfr1 0 (by omega)).trans H_this
      have H_this_typed := K0
      have hwc := (K3 c0).1
      refine V_istore_n eX9_readOneWord_7 rfl (Nat.le_of_ble_eq_true rfl) rfl (eb_sS eb_s0) ?_
      refine V_iload_n eX9_readOneWord_8 rfl rfl ?_
      refine V_if_eq (tgt := 17) eX9_readOneWord_9 rfl (by omega) (fun c_9 => ?_) (fun c_9 => ?_)
      · refine V_aload_n eX9_readOneWord_17 rfl rfl ?_
        refine V_getf eX9_readOneWord_18 H_this rfl ?_
        refine V_getf eX9_readOneWord_21 H_this_typed rfl ?_
        refine V_iconst eX9_readOneWord_24 ?_
        refine V_icmp_ne (tgt := 32) eX9_readOneWord_25 rfl (by omega) (fun c_25 => ?_) (fun c_25 => ?_)
        · refine V_ldc (a := -1000000003) eX9_readOneWord_32 wd_559 (by decide) ?_
          exact V_iret eX9_readOneWord_34 ⟨Nat.zero_le _, Nat.zero_le _⟩ rfl (rfl) (⟨rfl, rfl, ⟨wc, lf, g, K0, K1, K2, K3⟩, hfr1⟩)
        · exact absurd c_25 (by omega)
      · exact absurd (by omega) c_9
/-- one draw of a text -/
def dr_1 (T : TX) (s : Int) : TX × Int := if T.1.length < 40 then ((T.1 ++ [(dr_W s).1], T.2), (dr_W s).2) else ((T.1.set (dr_v (dr_s (dr_W s).2) 40).toNat (dr_W s).1, T.2), dr_s (dr_W s).2)
theorem dr_1_ok {T : TX} (HO : TX_ok T) (s : Int) : TX_ok (dr_1 T s).1 ∧ (0 ≤ (dr_1 T s).2 ∧ (dr_1 T s).2 ≤ 2147483647) := by
  obtain ⟨w1, w2, w3⟩ := dr_W_ok s
  obtain ⟨⟨h1, h2⟩, h3⟩ := HO
  unfold dr_1
  by_cases c : T.1.length < 40
  · rw [if_pos c]
    refine ⟨⟨⟨by simp; omega, h2⟩, fun l hl => ?_⟩, w3⟩
    rcases List.mem_append.mp hl with q | q
    · exact h3 l q
    · rw [List.mem_singleton.mp q]
      exact ⟨w1, w2⟩
  · rw [if_neg c]
    refine ⟨⟨⟨by simp; omega, h2⟩, fun l hl => ?_⟩, dr_s_r _⟩
    rcases List.mem_or_eq_of_mem_set hl with q | q
    · exact h3 l q
    · rw [q]
      exact ⟨w1, w2⟩
theorem c_X9_driftOnce (HX : xo h) (HT : tx h 1 T) (HO : TX_ok T) (HD : h 40 = dr_obj seed) (hs : 0 ≤ seed ∧ seed ≤ 2147483647) : eb_T mX9_driftOnce [.ref 0] n h (eb_G none n (fun h' => (tx h' 1 (dr_1 T seed).1 ∧ h' 40 = dr_obj (dr_1 T seed).2) ∧ ∀ k, (k < 1 ∨ 2 < k) → k ≠ 40 → h' k = h k)) := by
  refine eb_T.of (by decide +kernel) (Nat.le_of_ble_eq_true rfl) ?_
  show eb_V _ _ 0 [.ref 0, eb_no, eb_no] [] (n, 0, 0) h _
  have H_this := HX.1
  have H_this_draws := HD
  have hN : T.1.length ≤ 40 := HO.1.1
  obtain ⟨w1, w2, w3⟩ := dr_W_ok seed
  unfold dr_1
  by_cases c : T.1.length < 40
  · rw [if_pos c]
    refine V_aload_n eX9_driftOnce_0 rfl rfl ?_
    refine V_getf eX9_driftOnce_1 H_this rfl ?_
    refine V_cvg eX9_driftOnce_4 (c_X1_drawWord HD hs) H_this_draws rfl rfl (Nat.le_of_ble_eq_true rfl) ⟨rfl, rfl⟩ ⟨Nat.zero_le _, Nat.zero_le _⟩ (fun h1 ⟨HD1, hfr1⟩ => ?_)
    show eb_V _ _ 7 _ [.long (eb_J (sp_enc (dr_W seed).1 : Int))] _ _ _
    have H_this : h1 0 = _ := (hfr1 0 (by omega)).trans H_this
    have HT1 : tx h1 1 T := HT.kept (fun k k1 k2 => hfr1 k (by omega))
    have H_this_text := HT1.1
    refine V_lstore_n eX9_driftOnce_7 rfl (Nat.le_of_ble_eq_true rfl) rfl (eb_sS eb_s0) (eb_sS (eb_sS eb_s0)) ?_
    refine V_aload_n eX9_driftOnce_8 rfl rfl ?_
    refine V_getf eX9_driftOnce_9 H_this rfl ?_
    refine V_getf eX9_driftOnce_12 H_this_text rfl ?_
    refine V_bipush eX9_driftOnce_15 (by decide) ?_
    refine V_icmp_ge (tgt := 38) eX9_driftOnce_17 rfl (by omega) (fun c_17 => ?_) (fun c_17 => ?_)
    · exact absurd c_17 (by omega)
    · refine V_aload_n eX9_driftOnce_20 rfl rfl ?_
      refine V_getf eX9_driftOnce_21 H_this rfl ?_
      refine V_aload_n eX9_driftOnce_24 rfl rfl ?_
      refine V_getf eX9_driftOnce_25 H_this rfl ?_
      refine V_getf eX9_driftOnce_28 H_this_text rfl ?_
      refine V_lload_n eX9_driftOnce_31 rfl rfl ?_
      refine V_cvg eX9_driftOnce_32 (c_X7_putIn (l := (dr_W seed).1) HT1 (Nat.le_refl _) c) H_this_text rfl rfl (Nat.le_of_ble_eq_true rfl) ⟨rfl, rfl⟩ ⟨Nat.zero_le _, Nat.zero_le _⟩ (fun h2 ⟨HT2, hfr2⟩ => ?_)
      show eb_V _ _ 35 _ [] _ _ _
      refine V_goto (tgt := 56) eX9_driftOnce_35 rfl ?_
      exact V_vret eX9_driftOnce_56 ⟨Nat.zero_le _, Nat.zero_le _⟩ rfl (⟨rfl, rfl, ⟨by rw [List.take_length, List.drop_length] at HT2; exact HT2, (hfr2 40 (by omega)).trans HD1⟩, fun k k1 k2 => (hfr2 k (by omega)).trans (hfr1 k k2)⟩)
  · rw [if_neg c]
    have hv := dr_v_r (s := dr_s (dr_W seed).2) (m := 40) (by decide)
    refine V_aload_n eX9_driftOnce_0 rfl rfl ?_
    refine V_getf eX9_driftOnce_1 H_this rfl ?_
    refine V_cvg eX9_driftOnce_4 (c_X1_drawWord HD hs) H_this_draws rfl rfl (Nat.le_of_ble_eq_true rfl) ⟨rfl, rfl⟩ ⟨Nat.zero_le _, Nat.zero_le _⟩ (fun h1 ⟨HD1, hfr1⟩ => ?_)
    show eb_V _ _ 7 _ [.long (eb_J (sp_enc (dr_W seed).1 : Int))] _ _ _
    have H_this : h1 0 = _ := (hfr1 0 (by omega)).trans H_this
    have HT1 : tx h1 1 T := HT.kept (fun k k1 k2 => hfr1 k (by omega))
    obtain ⟨H_this_text, f, H_this_text_words, hf⟩ := HT1
    have H_this_draws := HD1
    refine V_lstore_n eX9_driftOnce_7 rfl (Nat.le_of_ble_eq_true rfl) rfl (eb_sS eb_s0) (eb_sS (eb_sS eb_s0)) ?_
    refine V_aload_n eX9_driftOnce_8 rfl rfl ?_
    refine V_getf eX9_driftOnce_9 H_this rfl ?_
    refine V_getf eX9_driftOnce_12 H_this_text rfl ?_
    refine V_bipush eX9_driftOnce_15 (by decide) ?_
    refine V_icmp_ge (tgt := 38) eX9_driftOnce_17 rfl (by omega) (fun c_17 => ?_) (fun c_17 => ?_)
    · refine V_aload_n eX9_driftOnce_38 rfl rfl ?_
      refine V_getf eX9_driftOnce_39 H_this rfl ?_
      refine V_getf eX9_driftOnce_42 H_this_text rfl ?_
      refine V_aload_n eX9_driftOnce_45 rfl rfl ?_
      refine V_getf eX9_driftOnce_46 H_this rfl ?_
      refine V_bipush eX9_driftOnce_49 (by decide) ?_
      refine V_cvi eX9_driftOnce_51 (c_X1_draw HD1 w3 (by decide)) H_this_draws rfl rfl (Nat.le_of_ble_eq_true rfl) ⟨rfl, rfl⟩ ⟨Nat.zero_le _, Nat.zero_le _⟩ ?_
      refine V_lload_n eX9_driftOnce_54 rfl rfl ?_
      refine V_last eX9_driftOnce_55 (eb_up_n (by omega) H_this_text_words) (by omega) ?_
      exact V_vret eX9_driftOnce_56 ⟨Nat.zero_le _, Nat.zero_le _⟩ rfl (⟨rfl, rfl, ⟨⟨by rw [List.length_set]; exact eb_up_n (by omega) (eb_up_n (by omega) H_this_text), _, eb_up_s, fun w hw => by
          rw [List.getElem_set]
          unfold eb_set
          by_cases y : w = (dr_v (dr_s (dr_W seed).2) 40).toNat
          · rw [if_pos y, if_pos y.symm]
          · have hw2 : w < T.1.length := by rw [List.length_set] at hw; exact hw
            rw [if_neg y, if_neg (fun q => y q.symm), hf w hw2]⟩, eb_up_n (by omega) eb_up_s⟩, fun k k1 k2 => by rw [eb_up, if_neg (by omega), eb_up, if_neg k2]; exact hfr1 k k2⟩)
    · exact absurd (by omega) c_17
/-- a text with a word that has grown -/
def gw_wf (T : TX) (w m : Nat) (k : Nat) : Int := if k = w then tx_wf T.1 k + (m : Int) else tx_wf T.1 k
def gw_B (T : TX) (w m : Nat) : List Nat := lt_B (T.1.length, gw_wf T w m, T.2.1, T.2.2.1, T.2.2.2.1, T.2.2.2.2)
theorem gw_pl (T : TX) (w m : Nat) : ∀ k, lt_pl (gw_wf T w m) k = lt_pl (tx_wf T.1) k + if w < k then (m : Int) else 0 := by
  intro k
  induction k with
  | zero => simp [lt_pl]
  | succ k ih =>
    simp only [lt_pl, ih, gw_wf]
    by_cases c : k = w
    · rw [if_neg (by omega), if_pos c, if_pos (by omega)]
      omega
    · rw [if_neg c]
      by_cases c2 : w < k
      · rw [if_pos c2, if_pos (by omega)]
        omega
      · rw [if_neg c2, if_neg (by omega)]
        omega
theorem gw_ok {T : TX} (HO : TX_ok T) {w m : Nat} (hm : m ≤ 50) : lt_ok (T.1.length, gw_wf T w m, T.2.1, T.2.2.1, T.2.2.2.1, T.2.2.2.2) := by
  refine ⟨HO.1, fun k hk => ?_⟩
  have hk' : k < T.1.length := hk
  have h1 := HO.2 T.1[k] (List.getElem_mem hk')
  have h2 := sp_ww_r T.1[k]
  have h3 := h1.1.2
  have h4 := h1.2
  show 1 ≤ gw_wf T w m k ∧ gw_wf T w m k ≤ 90
  unfold gw_wf
  rw [tx_wf_at hk']
  split <;> omega
theorem gw_0 (T : TX) (w : Nat) : gw_B T w 0 = lt_B (T.1.length, tx_wf T.1, T.2.1, T.2.2.1, T.2.2.2.1, T.2.2.2.2) := by
  unfold gw_B
  have : gw_wf T w 0 = tx_wf T.1 := by
    funext k
    unfold gw_wf
    split <;> simp
  rw [this]
theorem c_X9_grows {w : Nat} {v : Int} (HX : xo h) (HT : tx h 1 T) (HO : TX_ok T) (HN : now h T) (HL : lyany h 52) (hw : w < T.1.length) (hv : lc (fun m => (1 ≤ m ∧ m ≤ 50) ∧ br_mk (gw_B T w m) ≠ br_mk (gw_B T w 0)) v) : eb_T mX9_grows [.ref 0, .int (eb_I (w : Int))] n h (eb_G (some (.int (eb_I v))) n (fun h' => lyany h' 52 ∧ ∀ k, (k < 52 ∨ 57 < k) → h' k = h k)) := by
  refine eb_T.of (by decide +kernel) (Nat.le_of_ble_eq_true rfl) ?_
  show eb_V _ _ 0 [.ref 0, .int (eb_I (w : Int)), eb_no] [] (n, 0, 0) h _
  have H_this := HX.1
  have hN : T.1.length ≤ 40 := HO.1.1
  obtain ⟨N0, me0, la0, fe0, fr0, li0, bg0, pl0, to0, ow0, lb0, ro0, HL⟩ := HL
  have H_this_trial := HL.1
  obtain ⟨roN, plN, toN, owN, lbN, HLN, -⟩ := HN
  rw [← gw_0 T w] at HLN
  have bl : ∀ m, m ≤ 50 → br_mk (gw_B T w m) < 2 ^ 41 := fun m hm => br_mk_lt (fun x hx => by
    have := (lt_B_up (gw_ok HO (w := w) hm)).1 x hx
    simp only at this
    omega)
  have loop : ∀ (d m : Nat) (h1 : eb_H) (li1 : Int) (bg1 : Nat) (pl1 to1 ow1 lb1 : Nat → Int), 1 ≤ m → m + d = 51 → ly_at h1 52 45 T.1.length T.2.1 T.2.2.1 T.2.2.2.1 T.2.2.2.2 li1 bg1 pl1 to1 ow1 lb1 ro0 → (∀ k, k ≤ T.1.length → pl1 k = lt_pl (gw_wf T w (m - 1)) k) → (∀ k, (k < 52 ∨ 57 < k) → h1 k = h k) → (∀ j, 1 ≤ j → j < m → br_mk (gw_B T w j) = br_mk (gw_B T w 0)) → eb_V mX9_grows (fun _ _ _ => True) 13 [.ref 0, .int (eb_I (w : Int)), .int (eb_I (m : Int))] [] (n, 0, 0) h1 (eb_R mX9_grows (eb_G (some (.int (eb_I v))) n (fun h' => lyany h' 52 ∧ ∀ k, (k < 52 ∨ 57 < k) → h' k = h k))) := by
    intro d
    induction d with
    | zero =>
      intro m h1 li1 bg1 pl1 to1 ow1 lb1 hm hmd HL1 hpl1 hfr1 g
      have : v = -1 := lc_none hv (fun j hj => hj.2 (g j hj.1.1 (by omega)))
      subst this
      refine V_iload_n eX9_grows_13 rfl rfl ?_
      refine V_bipush eX9_grows_14 (by decide) ?_
      refine V_icmp_gt (tgt := 61) eX9_grows_16 rfl (by omega) (fun c_16 => ?_) (fun c_16 => ?_)
      · refine V_iconst eX9_grows_61 ?_
        exact V_iret eX9_grows_62 ⟨Nat.zero_le _, Nat.zero_le _⟩ rfl (rfl) (⟨rfl, rfl, ⟨_, _, _, _, _, li1, bg1, pl1, to1, ow1, lb1, ro0, HL1⟩, hfr1⟩)
      · exact absurd (by omega) c_16
    | succ d ih =>
      intro m h1 li1 bg1 pl1 to1 ow1 lb1 hm hmd HL1 hpl1 hfr1 g
      have H_this : h1 0 = _ := (hfr1 0 (by omega)).trans H_this
      have H_this_trial := HL1.1
      have TW := c_X3_widen (n := n) HL1 (by omega) hN hw
      have key : ∀ (h2 : eb_H) (pl2 : Nat → Int), ly_at h2 52 45 T.1.length T.2.1 T.2.2.1 T.2.2.2.1 T.2.2.2.2 li1 bg1 pl2 to1 ow1 lb1 ro0 → (∀ e, e ≤ T.1.length → pl2 e = if w < e then pl1 e + 1 else pl1 e) → ∀ k, k ≤ T.1.length → pl2 k = lt_pl (gw_wf T w m) k := fun h2 pl2 HL2 q k hk => by
        rw [q k hk, hpl1 k hk, gw_pl, gw_pl]
        split
        · omega
        · rfl
      have hbm := bl m (by omega)
      have hb0 := bl 0 (by omega)
      by_cases c : br_mk (gw_B T w m) = br_mk (gw_B T w 0)
      · refine V_iload_n eX9_grows_13 rfl rfl ?_
        refine V_bipush eX9_grows_14 (by decide) ?_
        refine V_icmp_gt (tgt := 61) eX9_grows_16 rfl (by omega) (fun c_16 => ?_) (fun c_16 => ?_)
        · exact absurd c_16 (by omega)
        · refine V_aload_n eX9_grows_19 rfl rfl ?_
          refine V_getf eX9_grows_20 H_this rfl ?_
          refine V_iload_n eX9_grows_23 rfl rfl ?_
          refine V_iconst eX9_grows_24 ?_
          refine V_cvg eX9_grows_25 (TW) H_this_trial rfl rfl (Nat.le_of_ble_eq_true rfl) ⟨rfl, rfl⟩ ⟨Nat.zero_le _, Nat.zero_le _⟩ (fun h2 ⟨⟨pl2, HL2, hpl2⟩, hfr2⟩ => ?_)
          show eb_V _ _ 28 _ [] _ _ _
          have H_this : h2 0 = _ := (hfr2 0 (by omega)).trans H_this
          have H_this_trial := HL2.1
          have hpl3 := key h2 pl2 HL2 hpl2
          refine V_aload_n eX9_grows_28 rfl rfl ?_
          refine V_getf eX9_grows_29 H_this rfl ?_
          refine V_cvg eX9_grows_32 (c_X3_solve HL2 (by omega) (gw_ok HO (w := w) (m := m) (by omega)) hpl3) H_this_trial rfl rfl (Nat.le_of_ble_eq_true rfl) ⟨rfl, rfl⟩ ⟨Nat.zero_le _, Nat.zero_le _⟩ (fun h3 ⟨⟨pl3, to3, ow3, lb3, HL3, hpl4, _⟩, hfr3⟩ => ?_)
          show eb_V _ _ 35 _ [] _ _ _
          have kp : ∀ k, (k < 52 ∨ 57 < k) → h3 k = h k := fun k hk => ((hfr3 k (by omega)).trans (hfr2 k (by omega))).trans (hfr1 k hk)
          have H_this : h3 0 = _ := (hfr3 0 (by omega)).trans H_this
          have H_this_trial := HL3.1
          have H_this_now : h3 46 = _ := (kp 46 (by omega)).trans HLN.1
          refine V_aload_n eX9_grows_35 rfl rfl ?_
          refine V_getf eX9_grows_36 H_this rfl ?_
          refine V_getf eX9_grows_39 H_this_trial rfl ?_
          show eb_V _ _ 42 _ [.long (eb_J (br_mk (gw_B T w m) : Int))] _ _ _
          refine V_aload_n eX9_grows_42 rfl rfl ?_
          refine V_getf eX9_grows_43 H_this rfl ?_
          refine V_getf eX9_grows_46 H_this_now rfl ?_
          refine V_lcmpI eX9_grows_49 (by omega) ?_
          rw [eb_cmp0 (by rw [c])]
          refine V_if_eq (tgt := 55) eX9_grows_50 rfl (by omega) (fun c_50 => ?_) (fun c_50 => ?_)
          · refine V_iinc eX9_grows_55 rfl rfl (eb_sS (eb_sS eb_s0)) ?_
            refine V_goto (tgt := 13) eX9_grows_58 rfl ?_
            exact ih (m + 1) h3 _ _ pl3 to3 ow3 lb3 (by omega) (by omega) HL3 (by rw [Nat.add_sub_cancel]; exact hpl4) kp (fun j j1 j2 => by
              rcases Nat.lt_or_ge j m with z | z
              · exact g j j1 z
              · have : j = m := by omega
                subst this
                exact c)
          · exact absurd rfl c_50
      · have : v = (m : Int) := lc_at hv ⟨⟨hm, by omega⟩, c⟩ (fun j hj => by
          rcases Nat.lt_or_ge j m with z | z
          · exact absurd (g j hj.1.1 z) hj.2
          · exact z)
        subst this
        obtain ⟨y, hy, hy0, hyr⟩ := eb_cmpn (a := ((br_mk (gw_B T w m) : Nat) : Int)) (b := ((br_mk (gw_B T w 0) : Nat) : Int)) (by omega)
        refine V_iload_n eX9_grows_13 rfl rfl ?_
        refine V_bipush eX9_grows_14 (by decide) ?_
        refine V_icmp_gt (tgt := 61) eX9_grows_16 rfl (by omega) (fun c_16 => ?_) (fun c_16 => ?_)
        · exact absurd c_16 (by omega)
        · refine V_aload_n eX9_grows_19 rfl rfl ?_
          refine V_getf eX9_grows_20 H_this rfl ?_
          refine V_iload_n eX9_grows_23 rfl rfl ?_
          refine V_iconst eX9_grows_24 ?_
          refine V_cvg eX9_grows_25 (TW) H_this_trial rfl rfl (Nat.le_of_ble_eq_true rfl) ⟨rfl, rfl⟩ ⟨Nat.zero_le _, Nat.zero_le _⟩ (fun h2 ⟨⟨pl2, HL2, hpl2⟩, hfr2⟩ => ?_)
          show eb_V _ _ 28 _ [] _ _ _
          have H_this : h2 0 = _ := (hfr2 0 (by omega)).trans H_this
          have H_this_trial := HL2.1
          have hpl3 := key h2 pl2 HL2 hpl2
          refine V_aload_n eX9_grows_28 rfl rfl ?_
          refine V_getf eX9_grows_29 H_this rfl ?_
          refine V_cvg eX9_grows_32 (c_X3_solve HL2 (by omega) (gw_ok HO (w := w) (m := m) (by omega)) hpl3) H_this_trial rfl rfl (Nat.le_of_ble_eq_true rfl) ⟨rfl, rfl⟩ ⟨Nat.zero_le _, Nat.zero_le _⟩ (fun h3 ⟨⟨pl3, to3, ow3, lb3, HL3, hpl4, _⟩, hfr3⟩ => ?_)
          show eb_V _ _ 35 _ [] _ _ _
          have kp : ∀ k, (k < 52 ∨ 57 < k) → h3 k = h k := fun k hk => ((hfr3 k (by omega)).trans (hfr2 k (by omega))).trans (hfr1 k hk)
          have H_this : h3 0 = _ := (hfr3 0 (by omega)).trans H_this
          have H_this_trial := HL3.1
          have H_this_now : h3 46 = _ := (kp 46 (by omega)).trans HLN.1
          refine V_aload_n eX9_grows_35 rfl rfl ?_
          refine V_getf eX9_grows_36 H_this rfl ?_
          refine V_getf eX9_grows_39 H_this_trial rfl ?_
          show eb_V _ _ 42 _ [.long (eb_J (br_mk (gw_B T w m) : Int))] _ _ _
          refine V_aload_n eX9_grows_42 rfl rfl ?_
          refine V_getf eX9_grows_43 H_this rfl ?_
          refine V_getf eX9_grows_46 H_this_now rfl ?_
          refine V_lcmpI eX9_grows_49 (by omega) ?_
          rw [hy]
          refine V_if_eq (tgt := 55) eX9_grows_50 rfl (by omega) (fun c_50 => ?_) (fun c_50 => ?_)
          · exact absurd c_50 hy0
          · refine V_iload_n eX9_grows_53 rfl rfl ?_
            exact V_iret eX9_grows_54 ⟨Nat.zero_le _, Nat.zero_le _⟩ rfl (rfl) (⟨rfl, rfl, ⟨_, _, _, _, _, _, _, pl3, to3, ow3, lb3, ro0, HL3⟩, kp⟩)
  refine V_aload_n eX9_grows_0 rfl rfl ?_
  refine V_getf eX9_grows_1 H_this rfl ?_
  refine V_aload_n eX9_grows_4 rfl rfl ?_
  refine V_getf eX9_grows_5 H_this rfl ?_
  refine V_cvg eX9_grows_8 (c_X3_load HL (by omega) HT HO (by omega)) H_this_trial rfl rfl (Nat.le_of_ble_eq_true rfl) ⟨rfl, rfl⟩ ⟨Nat.zero_le _, Nat.zero_le _⟩ (fun h1 ⟨⟨pl1, HL1, hpl1⟩, hfr1⟩ => ?_)
  show eb_V _ _ 11 _ [] _ _ _
  refine V_iconst eX9_grows_11 ?_
  refine V_istore_n eX9_grows_12 rfl (Nat.le_of_ble_eq_true rfl) rfl (eb_sS (eb_sS eb_s0)) ?_
  exact loop 50 1 h1 _ _ pl1 _ _ _ (Nat.le_refl _) (by omega) HL1 (fun k hk => by rw [hpl1 k hk, gw_pl]; simp) (fun k hk => hfr1 k (by omega)) (fun j j1 j2 => absurd j2 (by omega))
end X9A
