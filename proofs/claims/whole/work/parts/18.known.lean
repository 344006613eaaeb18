/-! which owner, in how many runs -/
def rn_F (g : Nat → Int) (e0 : Nat) : Nat → Int × Int
  | 0 => (0, -1)
  | d + 1 => (if g (e0 + d) = (rn_F g e0 d).2 then (rn_F g e0 d).1 else (rn_F g e0 d).1 + 1, g (e0 + d))
theorem rn_F_r (g : Nat → Int) (e0 d : Nat) : 0 ≤ (rn_F g e0 d).1 ∧ (rn_F g e0 d).1 ≤ d := by
  induction d with
  | zero => simp [rn_F]
  | succ d ih =>
    simp only [rn_F]
    split <;> omega
theorem dp_a_r (f : Nat → Int) (n : Nat) : -1 ≤ dp_a f n ∧ dp_a f n < n := by
  induction n with
  | zero => simp [dp_a]
  | succ n ih =>
    simp only [dp_a]
    split <;> omega
def lt_kn (c : Nat → Nat → Int) (e t : Nat) : Int := dp_a (dp_f c e) (t + 1)
section LYK
variable {n : Nat} {h : eb_H} {b rt N bg : Nat} {me law fee fr lines : Int} {pl to ow lb ro : Nat → Int} {wf : Nat → Int}
theorem c_X3_ownerKnownTo {e t : Nat} (HL : ly_at h b rt N me law fee fr lines bg pl to ow lb ro) (hq : lt_ok (N, wf, me, law, fee, fr)) (hpl : ∀ k, k ≤ N → pl k = lt_pl wf k) (hto : ∀ k, k ≤ N → to k = dp_t (lt_c (N, wf, me, law, fee, fr)) k) (he : e ≤ N) (ht : t < e) :
    eb_T mX3_ownerKnownTo [.ref b, .int (eb_I (e : Int)), .int (eb_I (t : Int))] n h (eb_X (some (.int (eb_I (lt_kn (lt_c (N, wf, me, law, fee, fr)) e t)))) n h) := by
  refine eb_T.of (by decide +kernel) (Nat.le_of_ble_eq_true rfl) ?_
  show eb_V _ _ 0 [.ref b, .int (eb_I (e : Int)), .int (eb_I (t : Int)), eb_no, eb_no, eb_no, eb_no] [] (n, 0, 0) h _
  have HL' := HL
  obtain ⟨H_this, H_this_place, H_this_total, H_this_owner, H_this_lineBegin, H_this_row, H_this_roots⟩ := HL
  have hN : N ≤ 40 := hq.1.1
  have hfl := dp_f_lt (lt_cok hq) he
  unfold lt_kn
  generalize hf : dp_f (lt_c (N, wf, me, law, fee, fr)) e = f at hfl ⊢
  have hfe : ∀ i, i < e → to i + lt_c (N, wf, me, law, fee, fr) i e = f i := fun i hi => by rw [← hf, hto i (by omega)]; rfl
  have loop : ∀ (d i : Nat) (least : Int) (x6 : Value), i + d = t + 1 → (least = dp_m f i ∨ (i = 0 ∧ least = 2147483647)) → eb_V mX3_ownerKnownTo (fun _ _ _ => True) 9 [.ref b, .int (eb_I (e : Int)), .int (eb_I (t : Int)), .int (eb_I least), .int (eb_I (dp_a f i)), .int (eb_I (i : Int)), x6] [] (n, 0, 0) h (eb_R mX3_ownerKnownTo (eb_X (some (.int (eb_I (dp_a f (t + 1))))) n h)) := by
    intro d
    induction d with
    | zero =>
      intro i least x6 hi hl
      have : i = t + 1 := by omega
      subst this
      refine V_iload eX3_ownerKnownTo_9 rfl ?_
      refine V_iload_n eX3_ownerKnownTo_11 rfl rfl ?_
      refine V_icmp_gt (tgt := 51) eX3_ownerKnownTo_12 rfl (by omega) (fun c_12 => ?_) (fun c_12 => ?_)
      · refine V_iload eX3_ownerKnownTo_51 rfl ?_
        exact V_iret eX3_ownerKnownTo_53 ⟨Nat.zero_le _, Nat.zero_le _⟩ rfl (rfl) (⟨rfl, rfl, rfl⟩)
      · exact absurd (by omega) c_12
    | succ d ih =>
      intro i least x6 hi hl
      have hfi := hfl i (by omega)
      have hm : dp_m f (i + 1) = if f i < dp_m f i then f i else dp_m f i := rfl
      have ha : dp_a f (i + 1) = if f i < dp_m f i then (i : Int) else dp_a f i := rfl
      have hlr : 0 ≤ least ∧ least ≤ 2147483647 := by
        rcases hl with q | ⟨q, q2⟩
        · rcases Nat.eq_zero_or_pos i with z | z
          · subst z
            rw [q]
            simp [dp_m]
          · obtain ⟨a, h1, h2, -⟩ := dp_has (f := f) z (fun k hk => by have := hfl k (by omega); omega)
            have := hfl a (by have := h1.1; omega)
            omega
        · omega
      have hiff : f i < least ↔ f i < dp_m f i := by
        rcases hl with q | ⟨q, q2⟩
        · rw [q]
        · subst q
          rw [q2, show dp_m f 0 = 2000000000 from rfl]
          omega
      have J : ∀ (least' fr' : Int) (x : Value), least' = dp_m f (i + 1) → fr' = dp_a f (i + 1) → eb_V mX3_ownerKnownTo (fun _ _ _ => True) 45 [.ref b, .int (eb_I (e : Int)), .int (eb_I (t : Int)), .int (eb_I least'), .int (eb_I fr'), .int (eb_I (i : Int)), x] [] (n, 0, 0) h (eb_R mX3_ownerKnownTo (eb_X (some (.int (eb_I (dp_a f (t + 1))))) n h)) := by
        intro least' fr' x h1 h2
        subst h2
        refine V_iinc eX3_ownerKnownTo_45 rfl rfl (eb_sS (eb_sS (eb_sS (eb_sS (eb_sS eb_s0))))) ?_
        refine V_goto (tgt := 9) eX3_ownerKnownTo_48 rfl ?_
        exact ih (i + 1) _ _ (by omega) (Or.inl h1)
      refine V_iload eX3_ownerKnownTo_9 rfl ?_
      refine V_iload_n eX3_ownerKnownTo_11 rfl rfl ?_
      refine V_icmp_gt (tgt := 51) eX3_ownerKnownTo_12 rfl (by omega) (fun c_12 => ?_) (fun c_12 => ?_)
      · exact absurd c_12 (by omega)
      · refine V_aload_n eX3_ownerKnownTo_15 rfl rfl ?_
        refine V_getf eX3_ownerKnownTo_16 H_this rfl ?_
        refine V_iload eX3_ownerKnownTo_19 rfl ?_
        refine V_iald eX3_ownerKnownTo_21 H_this_total (by omega) ?_
        rw [Int.toNat_natCast]
        refine V_aload_n eX3_ownerKnownTo_22 rfl rfl ?_
        refine V_iload eX3_ownerKnownTo_23 rfl ?_
        refine V_iload_n eX3_ownerKnownTo_25 rfl rfl ?_
        refine V_cvi eX3_ownerKnownTo_26 (c_X3_pr HL' hq hpl (by omega) he) H_this rfl rfl (Nat.le_of_ble_eq_true rfl) ⟨rfl, rfl⟩ ⟨Nat.zero_le _, Nat.zero_le _⟩ ?_
        refine V_iadd eX3_ownerKnownTo_29 ?_
        rw [hfe i (by omega)]
        refine V_istore eX3_ownerKnownTo_30 (Nat.le_of_ble_eq_true rfl) rfl (eb_sS (eb_sS (eb_sS (eb_sS (eb_sS (eb_sS eb_s0)))))) ?_
        refine V_iload eX3_ownerKnownTo_32 rfl ?_
        refine V_iload_n eX3_ownerKnownTo_34 rfl rfl ?_
        refine V_icmp_ge (tgt := 45) eX3_ownerKnownTo_35 rfl (by omega) (fun c_35 => ?_) (fun c_35 => ?_)
        · refine J _ _ _ ?_ ?_
          · rcases hl with q | ⟨q, q2⟩
            · rw [hm, if_neg (by omega), q]
            · omega
          · rw [ha, if_neg (fun w => by have := hiff.mpr w; omega)]
        · refine V_iload eX3_ownerKnownTo_38 rfl ?_
          refine V_istore_n eX3_ownerKnownTo_40 rfl (Nat.le_of_ble_eq_true rfl) rfl (eb_sS (eb_sS (eb_sS eb_s0))) ?_
          refine V_iload eX3_ownerKnownTo_41 rfl ?_
          refine V_istore eX3_ownerKnownTo_43 (Nat.le_of_ble_eq_true rfl) rfl (eb_sS (eb_sS (eb_sS (eb_sS eb_s0)))) ?_
          refine J _ _ _ ?_ ?_
          · rw [hm, if_pos (hiff.mp (by omega))]
          · rw [ha, if_pos (hiff.mp (by omega))]
  refine V_ldc (a := 2147483647) eX3_ownerKnownTo_0 wd_319 (by decide) ?_
  refine V_istore_n eX3_ownerKnownTo_2 rfl (Nat.le_of_ble_eq_true rfl) rfl (eb_sS (eb_sS (eb_sS eb_s0))) ?_
  refine V_iconst eX3_ownerKnownTo_3 ?_
  refine V_istore eX3_ownerKnownTo_4 (Nat.le_of_ble_eq_true rfl) rfl (eb_sS (eb_sS (eb_sS (eb_sS eb_s0)))) ?_
  refine V_iconst eX3_ownerKnownTo_6 ?_
  refine V_istore eX3_ownerKnownTo_7 (Nat.le_of_ble_eq_true rfl) rfl (eb_sS (eb_sS (eb_sS (eb_sS (eb_sS eb_s0))))) ?_
  exact loop (t + 1) 0 _ _ (by omega) (Or.inr ⟨rfl, rfl⟩)
theorem c_X3_runsAt {t : Nat} (HL : ly_at h b rt N me law fee fr lines bg pl to ow lb ro) (hq : lt_ok (N, wf, me, law, fee, fr)) (hpl : ∀ k, k ≤ N → pl k = lt_pl wf k) (hto : ∀ k, k ≤ N → to k = dp_t (lt_c (N, wf, me, law, fee, fr)) k) (ht : t ≤ N) :
    eb_T mX3_runsAt [.ref b, .int (eb_I (t : Int))] n h (eb_X (some (.int (eb_I (rn_F (fun e => lt_kn (lt_c (N, wf, me, law, fee, fr)) e t) (t + 1) (N - t)).1))) n h) := by
  refine eb_T.of (by decide +kernel) (Nat.le_of_ble_eq_true rfl) ?_
  show eb_V _ _ 0 [.ref b, .int (eb_I (t : Int)), eb_no, eb_no, eb_no, eb_no] [] (n, 0, 0) h _
  have HL' := HL
  obtain ⟨H_this, H_this_place, H_this_total, H_this_owner, H_this_lineBegin, H_this_row, H_this_roots⟩ := HL
  have hN : N ≤ 40 := hq.1.1
  generalize hg : (fun e => lt_kn (lt_c (N, wf, me, law, fee, fr)) e t) = g
  have hge : ∀ e, lt_kn (lt_c (N, wf, me, law, fee, fr)) e t = g e := fun e => by rw [← hg]
  have hgr : ∀ e, -1 ≤ g e ∧ g e ≤ 40 := fun e => by
    rw [← hge e]
    have := dp_a_r (dp_f (lt_c (N, wf, me, law, fee, fr)) e) (t + 1)
    unfold lt_kn
    omega
  have hwr : ∀ d, -1 ≤ (rn_F g (t + 1) d).2 ∧ (rn_F g (t + 1) d).2 ≤ 40 := fun d => by
    cases d with
    | zero => simp [rn_F]
    | succ d => simp only [rn_F]; exact hgr _
  have loop : ∀ (d i : Nat) (x5 : Value), i + d = N - t → eb_V mX3_runsAt (fun _ _ _ => True) 9 [.ref b, .int (eb_I (t : Int)), .int (eb_I (rn_F g (t + 1) i).1), .int (eb_I (rn_F g (t + 1) i).2), .int (eb_I ((t + 1 + i : Nat) : Int)), x5] [] (n, 0, 0) h (eb_R mX3_runsAt (eb_X (some (.int (eb_I (rn_F g (t + 1) (N - t)).1))) n h)) := by
    intro d
    induction d with
    | zero =>
      intro i x5 hi
      have : i = N - t := by omega
      subst this
      refine V_iload eX3_runsAt_9 rfl ?_
      refine V_aload_n eX3_runsAt_11 rfl rfl ?_
      refine V_getf eX3_runsAt_12 H_this rfl ?_
      refine V_icmp_gt (tgt := 45) eX3_runsAt_15 rfl (by omega) (fun c_15 => ?_) (fun c_15 => ?_)
      · refine V_iload_n eX3_runsAt_45 rfl rfl ?_
        exact V_iret eX3_runsAt_46 ⟨Nat.zero_le _, Nat.zero_le _⟩ rfl (rfl) (⟨rfl, rfl, rfl⟩)
      · exact absurd (by omega) c_15
    | succ d ih =>
      intro i x5 hi
      have hr := rn_F_r g (t + 1) i
      have hw := hwr i
      have hgi := hgr (t + 1 + i)
      have e1 : (rn_F g (t + 1) (i + 1)).1 = if g (t + 1 + i) = (rn_F g (t + 1) i).2 then (rn_F g (t + 1) i).1 else (rn_F g (t + 1) i).1 + 1 := rfl
      have e2 : (rn_F g (t + 1) (i + 1)).2 = g (t + 1 + i) := rfl
      have J : ∀ (x2 x3 : Int), x2 = (rn_F g (t + 1) (i + 1)).1 → eb_V mX3_runsAt (fun _ _ _ => True) 36 [.ref b, .int (eb_I (t : Int)), .int (eb_I x2), .int (eb_I x3), .int (eb_I ((t + 1 + i : Nat) : Int)), .int (eb_I (g (t + 1 + i)))] [] (n, 0, 0) h (eb_R mX3_runsAt (eb_X (some (.int (eb_I (rn_F g (t + 1) (N - t)).1))) n h)) := by
        intro x2 x3 h2
        subst h2
        refine V_iload eX3_runsAt_36 rfl ?_
        refine V_istore_n eX3_runsAt_38 rfl (Nat.le_of_ble_eq_true rfl) rfl (eb_sS (eb_sS (eb_sS eb_s0))) ?_
        refine V_iinc eX3_runsAt_39 rfl rfl (eb_sS (eb_sS (eb_sS (eb_sS eb_s0)))) ?_
        refine V_goto (tgt := 9) eX3_runsAt_42 rfl ?_
        exact ih (i + 1) _ (by omega)
      refine V_iload eX3_runsAt_9 rfl ?_
      refine V_aload_n eX3_runsAt_11 rfl rfl ?_
      refine V_getf eX3_runsAt_12 H_this rfl ?_
      refine V_icmp_gt (tgt := 45) eX3_runsAt_15 rfl (by omega) (fun c_15 => ?_) (fun c_15 => ?_)
      · exact absurd c_15 (by omega)
      · refine V_aload_n eX3_runsAt_18 rfl rfl ?_
        refine V_iload eX3_runsAt_19 rfl ?_
        refine V_iload_n eX3_runsAt_21 rfl rfl ?_
        refine V_cvi eX3_runsAt_22 (c_X3_ownerKnownTo HL' hq hpl hto (by omega) (by omega)) H_this rfl rfl (Nat.le_of_ble_eq_true rfl) ⟨rfl, rfl⟩ ⟨Nat.zero_le _, Nat.zero_le _⟩ ?_
        rw [hge]
        refine V_istore eX3_runsAt_25 (Nat.le_of_ble_eq_true rfl) rfl (eb_sS (eb_sS (eb_sS (eb_sS (eb_sS eb_s0))))) ?_
        refine V_iload eX3_runsAt_27 rfl ?_
        refine V_iload_n eX3_runsAt_29 rfl rfl ?_
        refine V_icmp_eq (tgt := 36) eX3_runsAt_30 rfl (by omega) (fun c_30 => ?_) (fun c_30 => ?_)
        · exact J _ _ (by rw [e1, if_pos c_30])
        · refine V_iinc eX3_runsAt_33 rfl rfl (eb_sS (eb_sS eb_s0)) ?_
          exact J _ _ (by rw [e1, if_neg c_30])
  refine V_iconst eX3_runsAt_0 ?_
  refine V_istore_n eX3_runsAt_1 rfl (Nat.le_of_ble_eq_true rfl) rfl (eb_sS (eb_sS eb_s0)) ?_
  refine V_iconst eX3_runsAt_2 ?_
  refine V_istore_n eX3_runsAt_3 rfl (Nat.le_of_ble_eq_true rfl) rfl (eb_sS (eb_sS (eb_sS eb_s0))) ?_
  refine V_iload_n eX3_runsAt_4 rfl rfl ?_
  refine V_iconst eX3_runsAt_5 ?_
  refine V_iadd eX3_runsAt_6 ?_
  refine V_istore eX3_runsAt_7 (Nat.le_of_ble_eq_true rfl) rfl (eb_sS (eb_sS (eb_sS (eb_sS eb_s0)))) ?_
  exact loop (N - t) 0 _ (by omega)
end LYK
