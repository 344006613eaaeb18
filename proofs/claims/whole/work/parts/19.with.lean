/-! the least with so many lines -/
def wl_R (c : Nat → Nat → Int) : Nat → Nat → Int
  | 0, e => if e = 0 then 0 else 2000000000
  | t + 1, j => dp_m (fun i => if wl_R c t i = 2000000000 then 2000000000 else wl_R c t i + c i j) j
theorem dp_m_le {f : Nat → Int} : ∀ (n j : Nat), j < n → dp_m f n ≤ f j := by
  intro n
  induction n with
  | zero => intro j hj; omega
  | succ n ih =>
    intro j hj
    simp only [dp_m]
    rcases Nat.lt_or_ge j n with z | z
    · have := ih j z
      split <;> omega
    · have : j = n := by omega
      subst this
      split <;> omega
theorem dp_m_top (f : Nat → Int) (n : Nat) : dp_m f n ≤ 2000000000 := by
  induction n with
  | zero => exact Int.le_refl _
  | succ n ih => simp only [dp_m]; split <;> omega
theorem dp_m_att {f : Nat → Int} : ∀ n : Nat, dp_m f n < 2000000000 → ∃ a, a < n ∧ f a = dp_m f n := by
  intro n
  induction n with
  | zero => intro q; simp [dp_m] at q
  | succ n ih =>
    intro q
    simp only [dp_m] at q ⊢
    by_cases c : f n < dp_m f n
    · rw [if_pos c]; exact ⟨n, by omega, rfl⟩
    · rw [if_neg c] at q ⊢
      obtain ⟨a, a1, a2⟩ := ih q
      exact ⟨a, by omega, a2⟩
theorem dp_m_none {f : Nat → Int} {n : Nat} (h : ∀ i, i < n → 2000000000 ≤ f i) : dp_m f n = 2000000000 := by
  have h1 := dp_m_top f n
  rcases Int.lt_or_le (dp_m f n) 2000000000 with q | q
  · obtain ⟨a, a1, a2⟩ := dp_m_att n q
    have := h a a1
    omega
  · omega
theorem dp_m_min {f : Nat → Int} {n : Nat} {v : Int} (hv : v < 2000000000) (h1 : ∃ i, i < n ∧ f i = v) (h2 : ∀ i, i < n → v ≤ f i) : dp_m f n = v := by
  obtain ⟨i, hi, he⟩ := h1
  have a := dp_m_le (f := f) n i hi
  obtain ⟨j, hj, hj2⟩ := dp_m_att (f := f) n (by omega)
  have := h2 j hj
  omega
/-- what is reached by t lines, and what not -/
theorem wl_facts {c : Nat → Nat → Int} {N : Nat} (hc : dp_cok c N) : ∀ (t : Nat), t ≤ 40 → ∀ e, e ≤ N → ((e < t ∨ (t = 0 ∧ 0 < e)) → wl_R c t e = 2000000000) ∧ ((t ≤ e ∧ (t = 0 → e = 0)) → 0 ≤ wl_R c t e ∧ wl_R c t e ≤ 13690099 * (t : Int)) := by
  intro t
  induction t with
  | zero =>
    intro _ e he
    simp only [wl_R]
    refine ⟨fun h => ?_, fun h => ?_⟩
    · rw [if_neg (by omega)]
    · rw [if_pos (h.2 trivial)]; omega
  | succ t ih =>
    intro ht e he
    simp only [wl_R]
    refine ⟨fun h => ?_, fun h => ?_⟩
    · refine dp_m_none (fun i hi => ?_)
      rw [if_pos ((ih (by omega) i (by omega)).1 (by omega))]
      exact Int.le_refl _
    · have w := (ih (by omega) t (by omega))
      have key : ∃ k, k < e ∧ (t ≤ k ∧ (t = 0 → k = 0)) := ⟨t, by omega, by omega, fun q => q⟩
      obtain ⟨k, hk, hk2⟩ := key
      have b1 := (ih (by omega) k (by omega)).2 hk2
      have b2 := hc k e hk he
      have e1 := dp_m_le (f := fun i => if wl_R c t i = 2000000000 then 2000000000 else wl_R c t i + c i e) e k hk
      rw [if_neg (by omega)] at e1
      obtain ⟨a, a1, a2⟩ := dp_m_att (f := fun i => if wl_R c t i = 2000000000 then 2000000000 else wl_R c t i + c i e) e (by omega)
      refine ⟨?_, by omega⟩
      rw [← a2]
      split
      · omega
      · rename_i q
        have u := hc a e a1 he
        have v := (ih (by omega) a (by omega))
        rcases Nat.lt_or_ge a t with z | z
        · exact absurd (v.1 (Or.inl z)) q
        · by_cases y : t = 0 → a = 0
          · have := v.2 ⟨z, y⟩
            omega
          · exact absurd (v.1 (Or.inr (by omega))) q
theorem wl_next {c : Nat → Nat → Int} {N : Nat} (hc : dp_cok c N) {t e : Nat} (ht : t < 40) (he : e ≤ N) (hte : t < e) : (∃ i, t ≤ i ∧ i < e ∧ (t = 0 → i = 0) ∧ wl_R c t i + c i e = wl_R c (t + 1) e) ∧ ∀ i, t ≤ i → i < e → (t = 0 → i = 0) → wl_R c (t + 1) e ≤ wl_R c t i + c i e := by
  have w := (wl_facts hc (t + 1) (by omega) e he).2 ⟨by omega, fun q => absurd q (by omega)⟩
  have hval : wl_R c (t + 1) e = dp_m (fun i => if wl_R c t i = 2000000000 then 2000000000 else wl_R c t i + c i e) e := rfl
  refine ⟨?_, fun i h1 h2 h3 => ?_⟩
  · obtain ⟨a, a1, a2⟩ := dp_m_att (f := fun i => if wl_R c t i = 2000000000 then 2000000000 else wl_R c t i + c i e) e (by rw [← hval]; omega)
    rw [← hval] at a2
    have v := (wl_facts hc t (by omega) a (by omega))
    by_cases q : wl_R c t a = 2000000000
    · rw [if_pos q] at a2
      omega
    · rw [if_neg q] at a2
      refine ⟨a, ?_, a1, ?_, a2⟩
      · rcases Nat.lt_or_ge a t with z | z
        · exact absurd (v.1 (Or.inl z)) q
        · exact z
      · intro z
        rcases Nat.eq_zero_or_pos a with y | y
        · exact y
        · exact absurd (v.1 (Or.inr ⟨z, y⟩)) q
  · have a := dp_m_le (f := fun i => if wl_R c t i = 2000000000 then 2000000000 else wl_R c t i + c i e) e i h2
    rw [← hval] at a
    have v := (wl_facts hc t (by omega) i (by omega)).2 ⟨h1, h3⟩
    rw [if_neg (by omega)] at a
    exact a
section LYW
variable {n : Nat} {h : eb_H} {b rt N bg : Nat} {me law fee fr lines : Int} {pl to ow lb ro : Nat → Int} {wf : Nat → Int}
theorem c_X3_leastWithOneMore {e t : Nat} {v : Int} (HL : ly_at h b rt N me law fee fr lines bg pl to ow lb ro) (hq : lt_ok (N, wf, me, law, fee, fr)) (hpl : ∀ k, k ≤ N → pl k = lt_pl wf k) (he : e ≤ N) (ht : t < e)
    (hro : ∀ i, t ≤ i → i < e → (t = 0 → i = 0) → 0 ≤ ro i ∧ ro i ≤ 600000000) (h1 : ∃ i, t ≤ i ∧ i < e ∧ (t = 0 → i = 0) ∧ ro i + lt_c (N, wf, me, law, fee, fr) i e = v) (h2 : ∀ i, t ≤ i → i < e → (t = 0 → i = 0) → v ≤ ro i + lt_c (N, wf, me, law, fee, fr) i e) :
    eb_T mX3_leastWithOneMore [.ref b, .int (eb_I (e : Int)), .int (eb_I (t : Int))] n h (eb_X (some (.int (eb_I v))) n h) := by
  refine eb_T.of (by decide +kernel) (Nat.le_of_ble_eq_true rfl) ?_
  show eb_V _ _ 0 [.ref b, .int (eb_I (e : Int)), .int (eb_I (t : Int)), eb_no, eb_no, eb_no] [] (n, 0, 0) h _
  have HL' := HL
  obtain ⟨H_this, H_this_place, H_this_total, H_this_owner, H_this_lineBegin, H_this_row, H_this_roots⟩ := HL
  have hN : N ≤ 40 := hq.1.1
  have hco := lt_cok hq
  have loop : ∀ (hi : Nat) (d i : Nat) (least : Int), hi < e → (t = 0 → hi = 0) → (t ≠ 0 → hi = e - 1) → t ≤ i → i + d = hi + 1 → (0 ≤ least ∧ least ≤ 2147483647) → (∀ j, t ≤ j → j < i → least ≤ ro j + lt_c (N, wf, me, law, fee, fr) j e) → ((i = t ∧ least = 2147483647) ∨ ∃ j, t ≤ j ∧ j < i ∧ ro j + lt_c (N, wf, me, law, fee, fr) j e = least) → eb_V mX3_leastWithOneMore (fun _ _ _ => True) 19 [.ref b, .int (eb_I (e : Int)), .int (eb_I (t : Int)), .int (eb_I least), .int (eb_I (hi : Int)), .int (eb_I (i : Int))] [] (n, 0, 0) h (eb_R mX3_leastWithOneMore (eb_X (some (.int (eb_I v))) n h)) := by
    intro hi d
    induction d with
    | zero =>
      intro i least hh1 hh2 hh3 hti hid hlr g1 g2
      have : least = v := by
        obtain ⟨a, a1, a2, a3, a4⟩ := h1
        have x0 : a < i := by
          rcases Nat.eq_zero_or_pos t with z | z
          · have := a3 z
            omega
          · have := hh3 (by omega)
            omega
        have x1 := g1 a a1 x0
        rcases g2 with ⟨q1, q2⟩ | ⟨j, j1, j2, j3⟩
        · have := hro a a1 a2 a3
          have := hco a e a2 he
          omega
        · have x2 := h2 j j1 (by omega) (fun z => by have := hh2 z; omega)
          omega
      subst this
      refine V_iload eX3_leastWithOneMore_19 rfl ?_
      refine V_iload eX3_leastWithOneMore_21 rfl ?_
      refine V_icmp_gt (tgt := 52) eX3_leastWithOneMore_23 rfl (by omega) (fun c_23 => ?_) (fun c_23 => ?_)
      · refine V_iload_n eX3_leastWithOneMore_52 rfl rfl ?_
        exact V_iret eX3_leastWithOneMore_53 ⟨Nat.zero_le _, Nat.zero_le _⟩ rfl (rfl) (⟨rfl, rfl, rfl⟩)
      · exact absurd (by omega) c_23
    | succ d ih =>
      intro i least hh1 hh2 hh3 hti hid hlr g1 g2
      have hie : i < e := by omega
      have hi0 : t = 0 → i = 0 := fun z => by have := hh2 z; omega
      have r1 := hro i hti hie hi0
      have r2 := hco i e hie he
      refine V_iload eX3_leastWithOneMore_19 rfl ?_
      refine V_iload eX3_leastWithOneMore_21 rfl ?_
      refine V_icmp_gt (tgt := 52) eX3_leastWithOneMore_23 rfl (by omega) (fun c_23 => ?_) (fun c_23 => ?_)
      · exact absurd c_23 (by omega)
      · refine V_iload_n eX3_leastWithOneMore_26 rfl rfl ?_
        refine V_aload_n eX3_leastWithOneMore_27 rfl rfl ?_
        refine V_getf eX3_leastWithOneMore_28 H_this rfl ?_
        refine V_iload eX3_leastWithOneMore_31 rfl ?_
        refine V_iald eX3_leastWithOneMore_33 H_this_row (by omega) ?_
        rw [Int.toNat_natCast]
        refine V_aload_n eX3_leastWithOneMore_34 rfl rfl ?_
        refine V_iload eX3_leastWithOneMore_35 rfl ?_
        refine V_iload_n eX3_leastWithOneMore_37 rfl rfl ?_
        refine V_cvi eX3_leastWithOneMore_38 (c_X3_pr HL' hq hpl hie he) H_this rfl rfl (Nat.le_of_ble_eq_true rfl) ⟨rfl, rfl⟩ ⟨Nat.zero_le _, Nat.zero_le _⟩ ?_
        refine V_iadd eX3_leastWithOneMore_41 ?_
        refine V_mmin eX3_leastWithOneMore_42 (by omega) (Nat.le_of_ble_eq_true rfl) ⟨Nat.zero_le _, Nat.zero_le _⟩ ?_
        refine V_istore_n eX3_leastWithOneMore_45 rfl (Nat.le_of_ble_eq_true rfl) rfl (eb_sS (eb_sS (eb_sS eb_s0))) ?_
        refine V_iinc eX3_leastWithOneMore_46 rfl rfl (eb_sS (eb_sS (eb_sS (eb_sS (eb_sS eb_s0))))) ?_
        refine V_goto (tgt := 19) eX3_leastWithOneMore_49 rfl ?_
        refine ih (i + 1) _ hh1 hh2 hh3 (by omega) (by omega) (by omega) (fun j j1 j2 => ?_) (Or.inr ?_)
        · rcases Nat.lt_or_ge j i with z | z
          · have := g1 j j1 z
            omega
          · have : j = i := by omega
            subst this
            omega
        · rcases Int.lt_or_le (ro i + lt_c (N, wf, me, law, fee, fr) i e) least with z | z
          · exact ⟨i, hti, by omega, by omega⟩
          · rcases g2 with ⟨q1, q2⟩ | ⟨j, j1, j2, j3⟩
            · omega
            · exact ⟨j, j1, by omega, by omega⟩
  by_cases z : t = 0
  · subst z
    refine V_ldc (a := 2147483647) eX3_leastWithOneMore_0 wd_319 (by decide) ?_
    refine V_istore_n eX3_leastWithOneMore_2 rfl (Nat.le_of_ble_eq_true rfl) rfl (eb_sS (eb_sS (eb_sS eb_s0))) ?_
    refine V_iload_n eX3_leastWithOneMore_3 rfl rfl ?_
    refine V_if_ne (tgt := 11) eX3_leastWithOneMore_4 rfl (by omega) (fun c_4 => ?_) (fun c_4 => ?_)
    · exact absurd rfl c_4
    · refine V_iconst eX3_leastWithOneMore_7 ?_
      refine V_goto (tgt := 14) eX3_leastWithOneMore_8 rfl ?_
      refine V_istore eX3_leastWithOneMore_14 (Nat.le_of_ble_eq_true rfl) rfl (eb_sS (eb_sS (eb_sS (eb_sS eb_s0)))) ?_
      refine V_iload_n eX3_leastWithOneMore_16 rfl rfl ?_
      refine V_istore eX3_leastWithOneMore_17 (Nat.le_of_ble_eq_true rfl) rfl (eb_sS (eb_sS (eb_sS (eb_sS (eb_sS eb_s0))))) ?_
      exact loop 0 1 0 _ ht (fun _ => rfl) (fun q => absurd rfl q) (Nat.le_refl _) (by omega) (by omega) (fun j j1 j2 => absurd j2 (by omega)) (Or.inl ⟨rfl, rfl⟩)
  · refine V_ldc (a := 2147483647) eX3_leastWithOneMore_0 wd_319 (by decide) ?_
    refine V_istore_n eX3_leastWithOneMore_2 rfl (Nat.le_of_ble_eq_true rfl) rfl (eb_sS (eb_sS (eb_sS eb_s0))) ?_
    refine V_iload_n eX3_leastWithOneMore_3 rfl rfl ?_
    refine V_if_ne (tgt := 11) eX3_leastWithOneMore_4 rfl (by omega) (fun c_4 => ?_) (fun c_4 => ?_)
    · refine V_iload_n eX3_leastWithOneMore_11 rfl rfl ?_
      refine V_iconst eX3_leastWithOneMore_12 ?_
      refine V_isub eX3_leastWithOneMore_13 ?_
      refine V_eqI (b := ((e - 1 : Nat) : Int)) (by omega) ?_
      refine V_istore eX3_leastWithOneMore_14 (Nat.le_of_ble_eq_true rfl) rfl (eb_sS (eb_sS (eb_sS (eb_sS eb_s0)))) ?_
      refine V_iload_n eX3_leastWithOneMore_16 rfl rfl ?_
      refine V_istore eX3_leastWithOneMore_17 (Nat.le_of_ble_eq_true rfl) rfl (eb_sS (eb_sS (eb_sS (eb_sS (eb_sS eb_s0))))) ?_
      exact loop (e - 1) (e - t) t _ (by omega) (fun q => absurd q z) (fun _ => rfl) (Nat.le_refl _) (by omega) (by omega) (fun j j1 j2 => absurd j2 (by omega)) (Or.inl ⟨rfl, rfl⟩)
    · exact absurd c_4 (by omega)
theorem c_X3_leastWithLines {k : Nat} (HL : ly_at h b rt N me law fee fr lines bg pl to ow lb ro) (hrt : rt < b) (hq : lt_ok (N, wf, me, law, fee, fr)) (hpl : ∀ k, k ≤ N → pl k = lt_pl wf k) (hk : 1 ≤ k ∧ k ≤ 40) :
    eb_T mX3_leastWithLines [.ref b, .int (eb_I (k : Int))] n h (eb_G (some (.int (eb_I (if N < k then -1 else wl_R (lt_c (N, wf, me, law, fee, fr)) k N)))) n (fun h' => (∃ ro', ly_at h' b rt N me law fee fr lines bg pl to ow lb ro') ∧ ly_fr h h' b)) := by
  refine eb_T.of (by decide +kernel) (Nat.le_of_ble_eq_true rfl) ?_
  show eb_V _ _ 0 [.ref b, .int (eb_I (k : Int)), eb_no, eb_no] [] (n, 0, 0) h _
  have hN : N ≤ 40 := hq.1.1
  have hco := lt_cok hq
  generalize hcc : lt_c (N, wf, me, law, fee, fr) = c at hco ⊢
  generalize hG : (fun h' => (∃ ro', ly_at h' b rt N me law fee fr lines bg pl to ow lb ro') ∧ ly_fr h h' b) = G
  by_cases hkN : N < k
  · rw [if_pos hkN]
    have HL' := HL
    obtain ⟨H_this, H_this_place, H_this_total, H_this_owner, H_this_lineBegin, H_this_row, H_this_roots⟩ := HL
    refine V_iload_n eX3_leastWithLines_0 rfl rfl ?_
    refine V_aload_n eX3_leastWithLines_1 rfl rfl ?_
    refine V_getf eX3_leastWithLines_2 H_this rfl ?_
    refine V_icmp_le (tgt := 10) eX3_leastWithLines_5 rfl (by omega) (fun c_5 => ?_) (fun c_5 => ?_)
    · exact absurd c_5 (by omega)
    · refine V_iconst eX3_leastWithLines_8 ?_
      exact V_iret eX3_leastWithLines_9 ⟨Nat.zero_le _, Nat.zero_le _⟩ rfl (rfl) (⟨rfl, rfl, by rw [← hG]; exact ⟨⟨ro, HL'⟩, ly_fr.rf⟩⟩)
  · rw [if_neg hkN]
    have outer : ∀ (d t : Nat) (h1 : eb_H) (ro1 : Nat → Int) (x3 : Value), t + d = k → ly_at h1 b rt N me law fee fr lines bg pl to ow lb ro1 → ly_fr h h1 b → (∀ i, t ≤ i → i ≤ N → (t = 0 → i = 0) → ro1 i = wl_R c t i) → eb_V mX3_leastWithLines (fun _ _ _ => True) 19 [.ref b, .int (eb_I (k : Int)), .int (eb_I ((t + 1 : Nat) : Int)), x3] [] (n, 0, 0) h1 (eb_R mX3_leastWithLines (eb_G (some (.int (eb_I (wl_R c k N)))) n G)) := by
      intro d
      induction d with
      | zero =>
        intro t h1 ro1 x3 htd HL1 hfr g
        have : t = k := by omega
        subst this
        have HL1' := HL1
        have gN := g N (by omega) (Nat.le_refl _) (by omega)
        obtain ⟨H_this, H_this_place, H_this_total, H_this_owner, H_this_lineBegin, H_this_row, H_this_roots⟩ := HL1
        refine V_iload_n eX3_leastWithLines_19 rfl rfl ?_
        refine V_iload_n eX3_leastWithLines_20 rfl rfl ?_
        refine V_icmp_gt (tgt := 60) eX3_leastWithLines_21 rfl (by omega) (fun c_21 => ?_) (fun c_21 => ?_)
        · refine V_aload_n eX3_leastWithLines_60 rfl rfl ?_
          refine V_getf eX3_leastWithLines_61 H_this rfl ?_
          refine V_aload_n eX3_leastWithLines_64 rfl rfl ?_
          refine V_getf eX3_leastWithLines_65 H_this rfl ?_
          refine V_iald eX3_leastWithLines_68 H_this_row (by omega) ?_
          rw [Int.toNat_natCast, gN]
          exact V_iret eX3_leastWithLines_69 ⟨Nat.zero_le _, Nat.zero_le _⟩ rfl (rfl) (⟨rfl, rfl, by rw [← hG]; exact ⟨⟨ro1, HL1'⟩, hfr⟩⟩)
        · exact absurd (by omega) c_21
      | succ d ih =>
        intro t h1 ro1 x3 htd HL1 hfr g
        have inner : ∀ (m : Nat) (h2 : eb_H) (ro2 : Nat → Int), t + m ≤ N → ly_at h2 b rt N me law fee fr lines bg pl to ow lb ro2 → ly_fr h h2 b → (∀ i, i ≤ t + m → ro2 i = ro1 i) → (∀ i, t + m < i → i ≤ N → ro2 i = wl_R c (t + 1) i) → eb_V mX3_leastWithLines (fun _ _ _ => True) 29 [.ref b, .int (eb_I (k : Int)), .int (eb_I ((t + 1 : Nat) : Int)), .int (eb_I ((t + m : Nat) : Int))] [] (n, 0, 0) h2 (eb_R mX3_leastWithLines (eb_G (some (.int (eb_I (wl_R c k N)))) n G)) := by
          intro m
          induction m with
          | zero =>
            intro h2 ro2 hm HL2 hfr2 u1 u2
            have HL2' := HL2
            obtain ⟨H_this, H_this_place, H_this_total, H_this_owner, H_this_lineBegin, H_this_row, H_this_roots⟩ := HL2
            refine V_iload_n eX3_leastWithLines_29 rfl rfl ?_
            refine V_iload_n eX3_leastWithLines_30 rfl rfl ?_
            refine V_icmp_lt (tgt := 54) eX3_leastWithLines_31 rfl (by omega) (fun c_31 => ?_) (fun c_31 => ?_)
            · refine V_iinc eX3_leastWithLines_54 rfl rfl (eb_sS (eb_sS eb_s0)) ?_
              refine V_goto (tgt := 19) eX3_leastWithLines_57 rfl ?_
              exact ih (t + 1) _ _ _ (by omega) HL2' hfr2 (fun i i1 i2 i3 => u2 i (by omega) i2)
            · exact absurd (by omega) c_31
          | succ m im =>
            intro h2 ro2 hm HL2 hfr2 u1 u2
            have HL2' := HL2
            obtain ⟨w1, w2⟩ := wl_next hco (t := t) (e := t + (m + 1)) (by omega) hm (by omega)
            have hre : ∀ i, t ≤ i → i < t + (m + 1) → (t = 0 → i = 0) → ro2 i = wl_R c t i := fun i i1 i2 i3 => by rw [u1 i (by omega), g i i1 (by omega) i3]
            have T := c_X3_leastWithOneMore (n := n) (e := t + (m + 1)) (t := t) (v := wl_R c (t + 1) (t + (m + 1))) HL2' hq hpl hm (by omega) (fun i i1 i2 i3 => by
              rw [hre i i1 i2 i3]
              have := (wl_facts hco t (by omega) i (by omega)).2 ⟨i1, i3⟩
              omega) (by
              obtain ⟨i, i1, i2, i3, i4⟩ := w1
              exact ⟨i, i1, i2, i3, by rw [hre i i1 i2 i3, hcc]; exact i4⟩) (fun i i1 i2 i3 => by rw [hre i i1 i2 i3, hcc]; exact w2 i i1 i2 i3)
            have HL3 := ly_u5 (f := eb_set ro2 (((t + (m + 1) : Nat) : Int)).toNat (wl_R c (t + 1) (t + (m + 1)))) HL2' hrt
            have hfr3 := hfr2.up (a := b + 5) (e := eb_ia 41 (eb_set ro2 (((t + (m + 1) : Nat) : Int)).toNat (wl_R c (t + 1) (t + (m + 1))))) (by omega)
            have nxt := im _ _ (by omega) HL3 hfr3 (fun i hi => by rw [Int.toNat_natCast]; unfold eb_set; rw [if_neg (by omega)]; exact u1 i (by omega)) (fun i i1 i2 => by
              rw [Int.toNat_natCast]
              unfold eb_set
              by_cases y : i = t + (m + 1)
              · rw [if_pos y, y]
              · rw [if_neg y]
                exact u2 i (by omega) i2)
            obtain ⟨H_this, H_this_place, H_this_total, H_this_owner, H_this_lineBegin, H_this_row, H_this_roots⟩ := HL2
            refine V_iload_n eX3_leastWithLines_29 rfl rfl ?_
            refine V_iload_n eX3_leastWithLines_30 rfl rfl ?_
            refine V_icmp_lt (tgt := 54) eX3_leastWithLines_31 rfl (by omega) (fun c_31 => ?_) (fun c_31 => ?_)
            · exact absurd c_31 (by omega)
            · refine V_aload_n eX3_leastWithLines_34 rfl rfl ?_
              refine V_getf eX3_leastWithLines_35 H_this rfl ?_
              refine V_iload_n eX3_leastWithLines_38 rfl rfl ?_
              refine V_aload_n eX3_leastWithLines_39 rfl rfl ?_
              refine V_iload_n eX3_leastWithLines_40 rfl rfl ?_
              refine V_iload_n eX3_leastWithLines_41 rfl rfl ?_
              refine V_iconst eX3_leastWithLines_42 ?_
              refine V_isub eX3_leastWithLines_43 ?_
              refine V_eqI (b := (t : Int)) (by omega) ?_
              refine V_cvi eX3_leastWithLines_44 (T) H_this rfl rfl (Nat.le_of_ble_eq_true rfl) ⟨rfl, rfl⟩ ⟨Nat.zero_le _, Nat.zero_le _⟩ ?_
              refine V_iast eX3_leastWithLines_47 H_this_row (by omega) ?_
              refine V_iinc eX3_leastWithLines_48 rfl rfl (eb_sS (eb_sS (eb_sS eb_s0))) ?_
              refine V_goto (tgt := 29) eX3_leastWithLines_51 rfl ?_
              rw [show ((t + (m + 1) : Nat) : Int) + -1 = ((t + m : Nat) : Int) by omega]
              exact nxt
        have HL1' := HL1
        obtain ⟨H_this, H_this_place, H_this_total, H_this_owner, H_this_lineBegin, H_this_row, H_this_roots⟩ := HL1
        refine V_iload_n eX3_leastWithLines_19 rfl rfl ?_
        refine V_iload_n eX3_leastWithLines_20 rfl rfl ?_
        refine V_icmp_gt (tgt := 60) eX3_leastWithLines_21 rfl (by omega) (fun c_21 => ?_) (fun c_21 => ?_)
        · exact absurd c_21 (by omega)
        · refine V_aload_n eX3_leastWithLines_24 rfl rfl ?_
          refine V_getf eX3_leastWithLines_25 H_this rfl ?_
          refine V_istore_n eX3_leastWithLines_28 rfl (Nat.le_of_ble_eq_true rfl) rfl (eb_sS (eb_sS (eb_sS eb_s0))) ?_
          rw [show (N : Int) = ((t + (N - t) : Nat) : Int) by omega]
          exact inner (N - t) _ _ (by omega) HL1' hfr (fun i _ => rfl) (fun i i1 i2 => absurd i2 (by omega))
    have HL3 := ly_u5 (f := eb_set ro 0 0) HL hrt
    obtain ⟨H_this, H_this_place, H_this_total, H_this_owner, H_this_lineBegin, H_this_row, H_this_roots⟩ := HL
    refine V_iload_n eX3_leastWithLines_0 rfl rfl ?_
    refine V_aload_n eX3_leastWithLines_1 rfl rfl ?_
    refine V_getf eX3_leastWithLines_2 H_this rfl ?_
    refine V_icmp_le (tgt := 10) eX3_leastWithLines_5 rfl (by omega) (fun c_5 => ?_) (fun c_5 => ?_)
    · refine V_aload_n eX3_leastWithLines_10 rfl rfl ?_
      refine V_getf eX3_leastWithLines_11 H_this rfl ?_
      refine V_iconst eX3_leastWithLines_14 ?_
      refine V_iconst eX3_leastWithLines_15 ?_
      refine V_iast eX3_leastWithLines_16 H_this_row (by omega) ?_
      refine V_iconst eX3_leastWithLines_17 ?_
      refine V_istore_n eX3_leastWithLines_18 rfl (Nat.le_of_ble_eq_true rfl) rfl (eb_sS (eb_sS eb_s0)) ?_
      refine outer k 0 _ _ _ (by omega) HL3 (ly_fr.rf.up (by omega)) (fun i i1 i2 i3 => ?_)
      have : i = 0 := i3 rfl
      subst this
      rfl
    · exact absurd (by omega) c_5
end LYW
