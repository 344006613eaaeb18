def mS (h : eb_H) (c : Nat → Int) : Prop := h 67 = mo c ∧ (∃ wd, h 73 = eb_ia 40 wd) ∧ mlany h ∧ ∃ be, h 78 = eb_ia 42 be
section M4
variable {n : Nat} {h : eb_H} {c : Nat → Int} {sf : Nat → Int} {T : TX}
theorem mlines.S {h : eb_H} (H : mlines h T c) : mS h (eb_set c 16 ((lt_B (txq T)).length : Int)) := by
  obtain ⟨⟨a, be, b, -⟩, d, wd, e, -⟩ := H
  exact ⟨a, ⟨wd, e⟩, d.any, be, b⟩
theorem c_X10_ownerBy {Q : lt_Q} {e t : Nat} (H_this : h 67 = mo c) (HM : ml h Q) (hq : lt_ok Q) (he : e ≤ Q.1) (ht : t < e) : eb_T mX10_ownerBy [.ref 67, .int (eb_I (e : Int)), .int (eb_I (t : Int))] n h (eb_X (some (.int (eb_I (lt_kn (lt_c Q) e t)))) n h) := by
  refine eb_T.of (by decide +kernel) (Nat.le_of_ble_eq_true rfl) ?_
  show eb_V _ _ 0 [.ref 67, .int (eb_I (e : Int)), .int (eb_I (t : Int)), eb_no, eb_no, eb_no, eb_no] [] (n, 0, 0) h _
  have hN : Q.1 ≤ 40 := hq.1.1
  obtain ⟨up, co, to, ow, U, H_this_costs, H_this_totals, W, q1, q2, q3, q4⟩ := HM
  have hfl := dp_f_lt (lt_cok hq) he
  unfold lt_kn
  have hfe : ∀ i, i < e → to i + co (41 * i + e) = dp_f (lt_c Q) e i := fun i hi => by rw [q3 i (by omega), q2 i e hi he]; rfl
  generalize dp_f (lt_c Q) e = f at hfl hfe ⊢
  have loop : ∀ (d i : Nat) (x6 : Value), i + d = t + 1 → eb_V mX10_ownerBy (fun _ _ _ => True) 9 [.ref 67, .int (eb_I (e : Int)), .int (eb_I (t : Int)), .int (eb_I (dp_a f i)), .int (eb_I (dp_m f i)), .int (eb_I (i : Int)), x6] [] (n, 0, 0) h (eb_R mX10_ownerBy (eb_X (some (.int (eb_I (dp_a f (t + 1))))) n h)) := by
    intro d
    induction d with
    | zero =>
      intro i x6 hi
      have : i = t + 1 := by omega
      subst this
      refine V_iload eX10_ownerBy_9 rfl ?_
      refine V_iload_n eX10_ownerBy_11 rfl rfl ?_
      refine V_icmp_gt (tgt := 73) eX10_ownerBy_12 rfl (by omega) (fun c_12 => ?_) (fun c_12 => ?_)
      · refine V_iload_n eX10_ownerBy_73 rfl rfl ?_
        exact V_iret eX10_ownerBy_74 ⟨Nat.zero_le _, Nat.zero_le _⟩ rfl (rfl) (⟨rfl, rfl, rfl⟩)
      · exact absurd (by omega) c_12
    | succ d ih =>
      intro i x6 hi
      have hfi := hfl i (by omega)
      have hmt := dp_m_top f i
      have hm0 : 0 ≤ dp_m f i := by
        rcases Int.lt_or_le (dp_m f i) 2000000000 with q | q
        · obtain ⟨a, a1, a2⟩ := dp_m_att i q
          have := hfl a (by omega)
          omega
        · omega
      have em : dp_m f (i + 1) = if f i < dp_m f i then f i else dp_m f i := rfl
      have ea : dp_a f (i + 1) = if f i < dp_m f i then (i : Int) else dp_a f i := rfl
      have ix : ((41 : Int) * (i : Int) + (e : Int)).toNat = 41 * i + e := by omega
      have nxt := fun x => ih (i + 1) x (by omega)
      by_cases cc : f i < dp_m f i
      · rw [em, ea, if_pos cc, if_pos cc] at nxt
        refine V_iload eX10_ownerBy_9 rfl ?_
        refine V_iload_n eX10_ownerBy_11 rfl rfl ?_
        refine V_icmp_gt (tgt := 73) eX10_ownerBy_12 rfl (by omega) (fun c_12 => ?_) (fun c_12 => ?_)
        · exact absurd c_12 (by omega)
        · refine V_aload_n eX10_ownerBy_15 rfl rfl ?_
          refine V_getf eX10_ownerBy_16 H_this rfl ?_
          refine V_iload eX10_ownerBy_19 rfl ?_
          refine V_iald eX10_ownerBy_21 H_this_totals (by omega) ?_
          refine V_aload_n eX10_ownerBy_22 rfl rfl ?_
          refine V_getf eX10_ownerBy_23 H_this rfl ?_
          refine V_bipush eX10_ownerBy_26 (by decide) ?_
          refine V_iload eX10_ownerBy_28 rfl ?_
          refine V_imul eX10_ownerBy_30 ?_
          refine V_iload_n eX10_ownerBy_31 rfl rfl ?_
          refine V_iadd eX10_ownerBy_32 ?_
          refine V_iald eX10_ownerBy_33 H_this_costs (by omega) ?_
          rw [Int.toNat_natCast, ix]
          refine V_iadd eX10_ownerBy_34 ?_
          rw [hfe i (by omega)]
          refine V_istore eX10_ownerBy_35 (Nat.le_of_ble_eq_true rfl) rfl (eb_sS (eb_sS (eb_sS (eb_sS (eb_sS (eb_sS eb_s0)))))) ?_
          refine V_iload eX10_ownerBy_37 rfl ?_
          refine V_iload eX10_ownerBy_39 rfl ?_
          refine V_icmp_ge (tgt := 49) eX10_ownerBy_41 rfl (by omega) (fun c_41 => ?_) (fun c_41 => ?_)
          · exact absurd c_41 (by omega)
          · refine V_iload eX10_ownerBy_44 rfl ?_
            refine V_goto (tgt := 50) eX10_ownerBy_46 rfl ?_
            refine V_istore_n eX10_ownerBy_50 rfl (Nat.le_of_ble_eq_true rfl) rfl (eb_sS (eb_sS (eb_sS eb_s0))) ?_
            refine V_iload eX10_ownerBy_51 rfl ?_
            refine V_iload eX10_ownerBy_53 rfl ?_
            refine V_icmp_ge (tgt := 63) eX10_ownerBy_55 rfl (by omega) (fun c_55 => ?_) (fun c_55 => ?_)
            · exact absurd c_55 (by omega)
            · refine V_iload eX10_ownerBy_58 rfl ?_
              refine V_goto (tgt := 65) eX10_ownerBy_60 rfl ?_
              refine V_istore eX10_ownerBy_65 (Nat.le_of_ble_eq_true rfl) rfl (eb_sS (eb_sS (eb_sS (eb_sS eb_s0)))) ?_
              refine V_iinc eX10_ownerBy_67 rfl rfl (eb_sS (eb_sS (eb_sS (eb_sS (eb_sS eb_s0))))) ?_
              refine V_goto (tgt := 9) eX10_ownerBy_70 rfl ?_
              exact nxt _
      · rw [em, ea, if_neg cc, if_neg cc] at nxt
        refine V_iload eX10_ownerBy_9 rfl ?_
        refine V_iload_n eX10_ownerBy_11 rfl rfl ?_
        refine V_icmp_gt (tgt := 73) eX10_ownerBy_12 rfl (by omega) (fun c_12 => ?_) (fun c_12 => ?_)
        · exact absurd c_12 (by omega)
        · refine V_aload_n eX10_ownerBy_15 rfl rfl ?_
          refine V_getf eX10_ownerBy_16 H_this rfl ?_
          refine V_iload eX10_ownerBy_19 rfl ?_
          refine V_iald eX10_ownerBy_21 H_this_totals (by omega) ?_
          refine V_aload_n eX10_ownerBy_22 rfl rfl ?_
          refine V_getf eX10_ownerBy_23 H_this rfl ?_
          refine V_bipush eX10_ownerBy_26 (by decide) ?_
          refine V_iload eX10_ownerBy_28 rfl ?_
          refine V_imul eX10_ownerBy_30 ?_
          refine V_iload_n eX10_ownerBy_31 rfl rfl ?_
          refine V_iadd eX10_ownerBy_32 ?_
          refine V_iald eX10_ownerBy_33 H_this_costs (by omega) ?_
          rw [Int.toNat_natCast, ix]
          refine V_iadd eX10_ownerBy_34 ?_
          rw [hfe i (by omega)]
          refine V_istore eX10_ownerBy_35 (Nat.le_of_ble_eq_true rfl) rfl (eb_sS (eb_sS (eb_sS (eb_sS (eb_sS (eb_sS eb_s0)))))) ?_
          refine V_iload eX10_ownerBy_37 rfl ?_
          refine V_iload eX10_ownerBy_39 rfl ?_
          refine V_icmp_ge (tgt := 49) eX10_ownerBy_41 rfl (by omega) (fun c_41 => ?_) (fun c_41 => ?_)
          · refine V_iload_n eX10_ownerBy_49 rfl rfl ?_
            refine V_istore_n eX10_ownerBy_50 rfl (Nat.le_of_ble_eq_true rfl) rfl (eb_sS (eb_sS (eb_sS eb_s0))) ?_
            refine V_iload eX10_ownerBy_51 rfl ?_
            refine V_iload eX10_ownerBy_53 rfl ?_
            refine V_icmp_ge (tgt := 63) eX10_ownerBy_55 rfl (by omega) (fun c_55 => ?_) (fun c_55 => ?_)
            · refine V_iload eX10_ownerBy_63 rfl ?_
              refine V_istore eX10_ownerBy_65 (Nat.le_of_ble_eq_true rfl) rfl (eb_sS (eb_sS (eb_sS (eb_sS eb_s0)))) ?_
              refine V_iinc eX10_ownerBy_67 rfl rfl (eb_sS (eb_sS (eb_sS (eb_sS (eb_sS eb_s0))))) ?_
              refine V_goto (tgt := 9) eX10_ownerBy_70 rfl ?_
              exact nxt _
            · exact absurd (by omega) c_55
          · exact absurd (by omega) c_41
  refine V_iconst eX10_ownerBy_0 ?_
  refine V_istore_n eX10_ownerBy_1 rfl (Nat.le_of_ble_eq_true rfl) rfl (eb_sS (eb_sS (eb_sS eb_s0))) ?_
  refine V_ldc (a := 2000000000) eX10_ownerBy_2 wd_870 (by decide) ?_
  refine V_istore eX10_ownerBy_4 (Nat.le_of_ble_eq_true rfl) rfl (eb_sS (eb_sS (eb_sS (eb_sS eb_s0)))) ?_
  refine V_iconst eX10_ownerBy_6 ?_
  refine V_istore eX10_ownerBy_7 (Nat.le_of_ble_eq_true rfl) rfl (eb_sS (eb_sS (eb_sS (eb_sS (eb_sS eb_s0))))) ?_
  exact loop (t + 1) 0 _ (by omega)
theorem c_X10_runsAt {wd : Nat → Int} {t : Nat} (H_this : h 67 = mo c) (H_this_st : h 68 = eb_ia 525 sf) (hm : ms sf T) (HO : TX_ok T) (H_wd : h 73 = eb_ia 40 wd) (HM : mlany h) (ht : t ≤ T.1.length) : eb_T mX10_runsAt [.ref 67, .int (eb_I (t : Int))] n h (eb_G (some (.int (eb_I (rn_F (fun e => lt_kn (lt_c (txq T)) e t) (t + 1) (T.1.length - t)).1))) n (fun h' => (mlany h' ∧ ∃ wd', h' 73 = eb_ia 40 wd') ∧ ∀ k, (k < 73 ∨ 77 < k) → h' k = h k)) := by
  refine eb_T.of (by decide +kernel) (Nat.le_of_ble_eq_true rfl) ?_
  show eb_V _ _ 0 [.ref 67, .int (eb_I (t : Int)), eb_no, eb_no, eb_no, eb_no] [] (n, 0, 0) h _
  have hN : T.1.length ≤ 40 := HO.1.1
  have e0 : sf (0 : Int).toNat = (T.1.length : Int) := hm.1
  have TL := c_X10_lay (n := n) H_this H_this_st hm HO H_wd HM
  have hq := tx_lok HO
  have TO : ∀ (h1 : eb_H) (e : Nat), h1 67 = mo c → ml h1 (txq T) → e ≤ T.1.length → t < e → eb_T mX10_ownerBy [.ref 67, .int (eb_I (e : Int)), .int (eb_I (t : Int))] n h1 (eb_X (some (.int (eb_I ((fun e => lt_kn (lt_c (txq T)) e t) e)))) n h1) := fun h1 e a b d1 d2 => c_X10_ownerBy (n := n) a b hq d1 d2
  have hgr : ∀ e, -1 ≤ (fun e => lt_kn (lt_c (txq T)) e t) e ∧ (fun e => lt_kn (lt_c (txq T)) e t) e ≤ 40 := fun e => by
    have := dp_a_r (dp_f (lt_c (txq T)) e) (t + 1)
    show -1 ≤ lt_kn _ e t ∧ lt_kn _ e t ≤ 40
    unfold lt_kn
    omega
  generalize (fun e => lt_kn (lt_c (txq T)) e t) = g at TO hgr ⊢
  have hwr : ∀ d, -1 ≤ (rn_F g (t + 1) d).2 ∧ (rn_F g (t + 1) d).2 ≤ 40 := fun d => by
    cases d with
    | zero => simp [rn_F]
    | succ d => simp only [rn_F]; exact hgr _
  have loop : ∀ (h1 : eb_H), h1 67 = mo c → h1 68 = eb_ia 525 sf → ml h1 (txq T) → ((mlany h1 ∧ ∃ wd', h1 73 = eb_ia 40 wd') ∧ ∀ k, (k < 73 ∨ 77 < k) → h1 k = h k) → ∀ (d i : Nat) (x5 : Value), i + d = T.1.length - t → eb_V mX10_runsAt (fun _ _ _ => True) 13 [.ref 67, .int (eb_I (t : Int)), .int (eb_I (rn_F g (t + 1) i).1), .int (eb_I (rn_F g (t + 1) i).2), .int (eb_I ((t + 1 + i : Nat) : Int)), x5] [] (n, 0, 0) h1 (eb_R mX10_runsAt (eb_G (some (.int (eb_I (rn_F g (t + 1) (T.1.length - t)).1))) n (fun h' => (mlany h' ∧ ∃ wd', h' 73 = eb_ia 40 wd') ∧ ∀ k, (k < 73 ∨ 77 < k) → h' k = h k))) := by
    intro h1 H_this H_this_st HM1 hG d
    induction d with
    | zero =>
      intro i x5 hi
      have : i = T.1.length - t := by omega
      subst this
      refine V_iload eX10_runsAt_13 rfl ?_
      refine V_aload_n eX10_runsAt_15 rfl rfl ?_
      refine V_getf eX10_runsAt_16 H_this rfl ?_
      refine V_iconst eX10_runsAt_19 ?_
      refine V_iald eX10_runsAt_20 H_this_st (by omega) ?_
      rw [e0]
      refine V_icmp_gt (tgt := 56) eX10_runsAt_21 rfl (by omega) (fun c_21 => ?_) (fun c_21 => ?_)
      · refine V_iload_n eX10_runsAt_56 rfl rfl ?_
        exact V_iret eX10_runsAt_57 ⟨Nat.zero_le _, Nat.zero_le _⟩ rfl (rfl) (⟨rfl, rfl, hG⟩)
      · exact absurd (by omega) c_21
    | succ d ih =>
      intro i x5 hi
      have hr := rn_F_r g (t + 1) i
      have hw := hwr i
      have hgi := hgr (t + 1 + i)
      have e1 : (rn_F g (t + 1) (i + 1)).1 = if g (t + 1 + i) = (rn_F g (t + 1) i).2 then (rn_F g (t + 1) i).1 else (rn_F g (t + 1) i).1 + 1 := rfl
      have nxt := ih (i + 1)
      by_cases cc : g (t + 1 + i) = (rn_F g (t + 1) i).2
      · rw [e1, if_pos cc] at nxt
        refine V_iload eX10_runsAt_13 rfl ?_
        refine V_aload_n eX10_runsAt_15 rfl rfl ?_
        refine V_getf eX10_runsAt_16 H_this rfl ?_
        refine V_iconst eX10_runsAt_19 ?_
        refine V_iald eX10_runsAt_20 H_this_st (by omega) ?_
        rw [e0]
        refine V_icmp_gt (tgt := 56) eX10_runsAt_21 rfl (by omega) (fun c_21 => ?_) (fun c_21 => ?_)
        · exact absurd c_21 (by omega)
        · refine V_aload_n eX10_runsAt_24 rfl rfl ?_
          refine V_iload eX10_runsAt_25 rfl ?_
          refine V_iload_n eX10_runsAt_27 rfl rfl ?_
          refine V_cvi eX10_runsAt_28 (TO h1 (t + 1 + i) H_this HM1 (by omega) (by omega)) H_this rfl rfl (Nat.le_of_ble_eq_true rfl) ⟨rfl, rfl⟩ ⟨Nat.zero_le _, Nat.zero_le _⟩ ?_
          refine V_istore eX10_runsAt_31 (Nat.le_of_ble_eq_true rfl) rfl (eb_sS (eb_sS (eb_sS (eb_sS (eb_sS eb_s0))))) ?_
          refine V_iload_n eX10_runsAt_33 rfl rfl ?_
          refine V_iload eX10_runsAt_34 rfl ?_
          refine V_iload_n eX10_runsAt_36 rfl rfl ?_
          refine V_icmp_ne (tgt := 44) eX10_runsAt_37 rfl (by omega) (fun c_37 => ?_) (fun c_37 => ?_)
          · exact absurd cc c_37
          · refine V_iconst eX10_runsAt_40 ?_
            refine V_goto (tgt := 45) eX10_runsAt_41 rfl ?_
            refine V_iadd eX10_runsAt_45 ?_
            refine V_eqI (b := (rn_F g (t + 1) i).1) (by omega) ?_
            refine V_istore_n eX10_runsAt_46 rfl (Nat.le_of_ble_eq_true rfl) rfl (eb_sS (eb_sS eb_s0)) ?_
            refine V_iload eX10_runsAt_47 rfl ?_
            refine V_istore_n eX10_runsAt_49 rfl (Nat.le_of_ble_eq_true rfl) rfl (eb_sS (eb_sS (eb_sS eb_s0))) ?_
            refine V_iinc eX10_runsAt_50 rfl rfl (eb_sS (eb_sS (eb_sS (eb_sS eb_s0)))) ?_
            refine V_goto (tgt := 13) eX10_runsAt_53 rfl ?_
            exact nxt _ (by omega)
      · rw [e1, if_neg cc] at nxt
        refine V_iload eX10_runsAt_13 rfl ?_
        refine V_aload_n eX10_runsAt_15 rfl rfl ?_
        refine V_getf eX10_runsAt_16 H_this rfl ?_
        refine V_iconst eX10_runsAt_19 ?_
        refine V_iald eX10_runsAt_20 H_this_st (by omega) ?_
        rw [e0]
        refine V_icmp_gt (tgt := 56) eX10_runsAt_21 rfl (by omega) (fun c_21 => ?_) (fun c_21 => ?_)
        · exact absurd c_21 (by omega)
        · refine V_aload_n eX10_runsAt_24 rfl rfl ?_
          refine V_iload eX10_runsAt_25 rfl ?_
          refine V_iload_n eX10_runsAt_27 rfl rfl ?_
          refine V_cvi eX10_runsAt_28 (TO h1 (t + 1 + i) H_this HM1 (by omega) (by omega)) H_this rfl rfl (Nat.le_of_ble_eq_true rfl) ⟨rfl, rfl⟩ ⟨Nat.zero_le _, Nat.zero_le _⟩ ?_
          refine V_istore eX10_runsAt_31 (Nat.le_of_ble_eq_true rfl) rfl (eb_sS (eb_sS (eb_sS (eb_sS (eb_sS eb_s0))))) ?_
          refine V_iload_n eX10_runsAt_33 rfl rfl ?_
          refine V_iload eX10_runsAt_34 rfl ?_
          refine V_iload_n eX10_runsAt_36 rfl rfl ?_
          refine V_icmp_ne (tgt := 44) eX10_runsAt_37 rfl (by omega) (fun c_37 => ?_) (fun c_37 => ?_)
          · refine V_iconst eX10_runsAt_44 ?_
            refine V_iadd eX10_runsAt_45 ?_
            refine V_istore_n eX10_runsAt_46 rfl (Nat.le_of_ble_eq_true rfl) rfl (eb_sS (eb_sS eb_s0)) ?_
            refine V_iload eX10_runsAt_47 rfl ?_
            refine V_istore_n eX10_runsAt_49 rfl (Nat.le_of_ble_eq_true rfl) rfl (eb_sS (eb_sS (eb_sS eb_s0))) ?_
            refine V_iinc eX10_runsAt_50 rfl rfl (eb_sS (eb_sS (eb_sS (eb_sS eb_s0)))) ?_
            refine V_goto (tgt := 13) eX10_runsAt_53 rfl ?_
            exact nxt _ (by omega)
          · exact absurd c_37 cc
  refine V_aload_n eX10_runsAt_0 rfl rfl ?_
  refine V_cvg eX10_runsAt_1 (TL) H_this rfl rfl (Nat.le_of_ble_eq_true rfl) ⟨rfl, rfl⟩ ⟨Nat.zero_le _, Nat.zero_le _⟩ (fun h1 ⟨⟨HM1, wd1, HW1, hwd1⟩, hfr1⟩ => ?_)
  show eb_V _ _ 4 _ [] _ _ _
  refine V_iconst eX10_runsAt_4 ?_
  refine V_istore_n eX10_runsAt_5 rfl (Nat.le_of_ble_eq_true rfl) rfl (eb_sS (eb_sS eb_s0)) ?_
  refine V_iconst eX10_runsAt_6 ?_
  refine V_istore_n eX10_runsAt_7 rfl (Nat.le_of_ble_eq_true rfl) rfl (eb_sS (eb_sS (eb_sS eb_s0))) ?_
  refine V_iload_n eX10_runsAt_8 rfl rfl ?_
  refine V_iconst eX10_runsAt_9 ?_
  refine V_iadd eX10_runsAt_10 ?_
  refine V_istore eX10_runsAt_11 (Nat.le_of_ble_eq_true rfl) rfl (eb_sS (eb_sS (eb_sS (eb_sS eb_s0)))) ?_
  exact loop h1 ((hfr1 67 (by omega)).trans H_this) ((hfr1 68 (by omega)).trans H_this_st) HM1 ⟨⟨HM1.any, wd1, HW1⟩, hfr1⟩ (T.1.length - t) 0 _ (by omega)
theorem c_X10_firstOf {wd : Nat → Int} {v sgn : Int} {wh : Nat} (H_this : h 67 = mo c) (H_this_st : h 68 = eb_ia 525 sf) (hm : ms sf T) (HO : TX_ok T) (H_wd : h 73 = eb_ia 40 wd) (HM : mlany h) (hw : (wh = 0 ∧ sgn = 1) ∨ (wh = 1 ∧ sgn = -1)) (hv : lc (fc_4 (lt_c (txq T)) T.1.length sgn) v) : eb_T mX10_firstOf [.ref 67, .int (eb_I (wh : Int))] n h (eb_G (some (.int (eb_I v))) n (fun h' => (mlany h' ∧ ∃ wd', h' 73 = eb_ia 40 wd') ∧ ∀ k, (k < 73 ∨ 77 < k) → h' k = h k)) := by
  refine eb_T.of (by decide +kernel) (Nat.le_of_ble_eq_true rfl) ?_
  show eb_V _ _ 0 [.ref 67, .int (eb_I (wh : Int)), eb_no, eb_no, eb_no, eb_no, eb_no, eb_no, eb_no] [] (n, 0, 0) h _
  have hN : T.1.length ≤ 40 := HO.1.1
  have e0 : sf (0 : Int).toNat = (T.1.length : Int) := hm.1
  have TL := c_X10_lay (n := n) H_this H_this_st hm HO H_wd HM
  have hco : dp_cok (lt_c (txq T)) T.1.length := lt_cok (tx_lok HO)
  have mlx : ∀ h1, ml h1 (txq T) → ∃ co, h1 75 = eb_ia 1681 co ∧ ∀ i j, i < j → j ≤ T.1.length → co (41 * i + j) = lt_c (txq T) i j := fun h1 H => by
    obtain ⟨up, co, to, ow, U, C, O, W, q1, q2, q3, q4⟩ := H
    exact ⟨co, C, q2⟩
  generalize lt_c (txq T) = cc at hco mlx hv
  generalize hNN : T.1.length = N at *
  have main : ∀ (G : eb_H → Prop) (h1 : eb_H) (co : Nat → Int), h1 67 = mo c → h1 75 = eb_ia 1681 co → (∀ i j, i < j → j ≤ N → co (41 * i + j) = cc i j) → G h1 → eb_V mX10_firstOf (fun _ _ _ => True) 13 [.ref 67, .int (eb_I (wh : Int)), .int (eb_I (N : Int)), .int (eb_I 0), eb_no, eb_no, eb_no, eb_no, eb_no] [] (n, 0, 0) h1 (eb_R mX10_firstOf (eb_G (some (.int (eb_I v))) n G)) := by
    intro G h1 co H_this H_this_costs hcc hG
    have li : ∀ (d i : Nat) (x4 x5 x6 x7 x8 : Value), i + d = N + 1 → (∀ i' k' j' l', i' < i → i' < k' → k' < j' → j' < l' → l' ≤ N → ¬ fc_P cc sgn i' k' j' l') → eb_V mX10_firstOf (fun _ _ _ => True) 13 [.ref 67, .int (eb_I (wh : Int)), .int (eb_I (N : Int)), .int (eb_I (i : Int)), x4, x5, x6, x7, x8] [] (n, 0, 0) h1 (eb_R mX10_firstOf (eb_G (some (.int (eb_I v))) n G)) := by
      intro d
      induction d with
      | zero =>
        intro i x4 x5 x6 x7 x8 hi gi
        have : v = -1 := lc_none hv (fun m hm => by
          obtain ⟨i', k', j', l', a1, a2, a3, a4, a5, a6⟩ := hm
          exact gi i' k' j' l' (by omega) a1 a2 a3 a4 a5)
        subst this
        refine V_iload_n eX10_firstOf_13 rfl rfl ?_
        refine V_iload_n eX10_firstOf_14 rfl rfl ?_
        refine V_icmp_gt (tgt := 182) eX10_firstOf_15 rfl (by omega) (fun c_15 => ?_) (fun c_15 => ?_)
        · refine V_iconst eX10_firstOf_182 ?_
          exact V_iret eX10_firstOf_183 ⟨Nat.zero_le _, Nat.zero_le _⟩ rfl (rfl) (⟨rfl, rfl, hG⟩)
        · exact absurd (by omega) c_15
      | succ d ih =>
        intro i x4 x5 x6 x7 x8 hi gi
        have lk : ∀ (d2 k : Nat) (x5 x6 x7 x8 : Value), i < k → k + d2 = N + 1 → (∀ k' j' l', i < k' → k' < k → k' < j' → j' < l' → l' ≤ N → ¬ fc_P cc sgn i k' j' l') → eb_V mX10_firstOf (fun _ _ _ => True) 23 [.ref 67, .int (eb_I (wh : Int)), .int (eb_I (N : Int)), .int (eb_I (i : Int)), .int (eb_I (k : Int)), x5, x6, x7, x8] [] (n, 0, 0) h1 (eb_R mX10_firstOf (eb_G (some (.int (eb_I v))) n G)) := by
          intro d2
          induction d2 with
          | zero =>
            intro k x5 x6 x7 x8 hik hk gk
            refine V_iload eX10_firstOf_23 rfl ?_
            refine V_iload_n eX10_firstOf_25 rfl rfl ?_
            refine V_icmp_gt (tgt := 176) eX10_firstOf_26 rfl (by omega) (fun c_26 => ?_) (fun c_26 => ?_)
            · refine V_iinc eX10_firstOf_176 rfl rfl (eb_sS (eb_sS (eb_sS eb_s0))) ?_
              refine V_goto (tgt := 13) eX10_firstOf_179 rfl ?_
              exact ih (i + 1) _ _ _ _ _ (by omega) (fun i' k' j' l' a1 a2 a3 a4 a5 a6 => by
                rcases Nat.lt_or_ge i' i with z | z
                · exact gi i' k' j' l' z a2 a3 a4 a5 a6
                · have : i' = i := by omega
                  subst this
                  exact gk k' j' l' a2 (by omega) a3 a4 a5 a6)
            · exact absurd (by omega) c_26
          | succ d2 ihk =>
            intro k x5 x6 x7 x8 hik hk gk
            have lj : ∀ (d3 j : Nat) (x6 x7 x8 : Value), k < j → j + d3 = N + 1 → (∀ j' l', k < j' → j' < j → j' < l' → l' ≤ N → ¬ fc_P cc sgn i k j' l') → eb_V mX10_firstOf (fun _ _ _ => True) 35 [.ref 67, .int (eb_I (wh : Int)), .int (eb_I (N : Int)), .int (eb_I (i : Int)), .int (eb_I (k : Int)), .int (eb_I (j : Int)), x6, x7, x8] [] (n, 0, 0) h1 (eb_R mX10_firstOf (eb_G (some (.int (eb_I v))) n G)) := by
              intro d3
              induction d3 with
              | zero =>
                intro j x6 x7 x8 hkj hj gj
                refine V_iload eX10_firstOf_35 rfl ?_
                refine V_iload_n eX10_firstOf_37 rfl rfl ?_
                refine V_icmp_gt (tgt := 170) eX10_firstOf_38 rfl (by omega) (fun c_38 => ?_) (fun c_38 => ?_)
                · refine V_iinc eX10_firstOf_170 rfl rfl (eb_sS (eb_sS (eb_sS (eb_sS eb_s0)))) ?_
                  refine V_goto (tgt := 23) eX10_firstOf_173 rfl ?_
                  exact ihk (k + 1) _ _ _ _ (by omega) (by omega) (fun k' j' l' a1 a2 a3 a4 a5 a6 => by
                    rcases Nat.lt_or_ge k' k with z | z
                    · exact gk k' j' l' a1 z a3 a4 a5 a6
                    · have : k' = k := by omega
                      subst this
                      exact gj j' l' a3 (by omega) a4 a5 a6)
                · exact absurd (by omega) c_38
              | succ d3 ihj =>
                intro j x6 x7 x8 hkj hj gj
                have ll : ∀ (d4 l : Nat) (x7 x8 : Value), j < l → l + d4 = N + 1 → (∀ l', j < l' → l' < l → ¬ fc_P cc sgn i k j l') → eb_V mX10_firstOf (fun _ _ _ => True) 47 [.ref 67, .int (eb_I (wh : Int)), .int (eb_I (N : Int)), .int (eb_I (i : Int)), .int (eb_I (k : Int)), .int (eb_I (j : Int)), .int (eb_I (l : Int)), x7, x8] [] (n, 0, 0) h1 (eb_R mX10_firstOf (eb_G (some (.int (eb_I v))) n G)) := by
                  intro d4
                  induction d4 with
                  | zero =>
                    intro l x7 x8 hjl hl gl
                    refine V_iload eX10_firstOf_47 rfl ?_
                    refine V_iload_n eX10_firstOf_49 rfl rfl ?_
                    refine V_icmp_gt (tgt := 164) eX10_firstOf_50 rfl (by omega) (fun c_50 => ?_) (fun c_50 => ?_)
                    · refine V_iinc eX10_firstOf_164 rfl rfl (eb_sS (eb_sS (eb_sS (eb_sS (eb_sS eb_s0))))) ?_
                      refine V_goto (tgt := 35) eX10_firstOf_167 rfl ?_
                      exact ihj (j + 1) _ _ _ (by omega) (by omega) (fun j' l' a1 a2 a3 a4 a5 => by
                        rcases Nat.lt_or_ge j' j with z | z
                        · exact gj j' l' a1 z a3 a4 a5
                        · have : j' = j := by omega
                          subst this
                          exact gl l' a3 (by omega) a5)
                    · exact absurd (by omega) c_50
                  | succ d4 ihl =>
                    intro l x7 x8 hjl hl gl
                    have r1 := hco i j (by omega) (by omega)
                    have r2 := hco k l (by omega) (by omega)
                    have r3 := hco i l (by omega) (by omega)
                    have r4 := hco k j (by omega) (by omega)
                    have n1 : ((41 : Int) * (i : Int) + (j : Int)).toNat = 41 * i + j := by omega
                    have n2 : ((41 : Int) * (k : Int) + (l : Int)).toNat = 41 * k + l := by omega
                    have n3 : ((41 : Int) * (i : Int) + (l : Int)).toNat = 41 * i + l := by omega
                    have n4 : ((41 : Int) * (k : Int) + (j : Int)).toNat = 41 * k + j := by omega
                    have q1 := hcc i j (by omega) (by omega)
                    have q2 := hcc k l (by omega) (by omega)
                    have q3 := hcc i l (by omega) (by omega)
                    have q4 := hcc k j (by omega) (by omega)
                    have fin : fc_P cc sgn i k j l → (41 : Int) * (41 * (41 * ((i : Int) + 1) + (k : Int) + 1) + (j : Int) + 1) + (l : Int) + 1 = v := fun hp => by
                      have := lc_at hv (m := ((i + 1) * 41 + k + 1) * 1681 + (j + 1) * 41 + l + 1) ⟨i, k, j, l, hik, hkj, hjl, by omega, hp, rfl⟩ (fun m hm => by
                        obtain ⟨i', k', j', l', a1, a2, a3, a4, a5, a6⟩ := hm
                        have e1 : ¬ i' < i := fun z => gi i' k' j' l' z a1 a2 a3 a4 a5
                        by_cases z1 : i' = i
                        · subst z1
                          have e2 : ¬ k' < k := fun z => gk k' j' l' a1 z a2 a3 a4 a5
                          by_cases z2 : k' = k
                          · subst z2
                            have e3 : ¬ j' < j := fun z => gj j' l' a2 z a3 a4 a5
                            by_cases z3 : j' = j
                            · subst z3
                              have e4 : ¬ l' < l := fun z => gl l' a3 z a5
                              omega
                            · omega
                          · omega
                        · omega)
                      omega
                    have pos : (sgn = 1 → (fc_P cc sgn i k j l ↔ cc i l + cc k j < cc i j + cc k l)) ∧ (sgn = -1 → (fc_P cc sgn i k j l ↔ cc i j + cc k l < cc i l + cc k j)) := by
                      unfold fc_P
                      refine ⟨fun e => ?_, fun e => ?_⟩
                      · subst e; omega
                      · subst e; omega
                    have nxt : ¬ fc_P cc sgn i k j l → ∀ x7 x8, eb_V mX10_firstOf (fun _ _ _ => True) 47 [.ref 67, .int (eb_I (wh : Int)), .int (eb_I (N : Int)), .int (eb_I (i : Int)), .int (eb_I (k : Int)), .int (eb_I (j : Int)), .int (eb_I ((l + 1 : Nat) : Int)), x7, x8] [] (n, 0, 0) h1 (eb_R mX10_firstOf (eb_G (some (.int (eb_I v))) n G)) := fun hp x7 x8 => ihl (l + 1) x7 x8 (by omega) (by omega) (fun l' a1 a2 => by
                      rcases Nat.lt_or_ge l' l with z | z
                      · exact gl l' a1 z
                      · have : l' = l := by omega
                        subst this
                        exact hp)
                    rcases hw with ⟨w1, w2⟩ | ⟨w1, w2⟩
                    · have hpp := pos.1 w2
                      subst w1
                      refine V_iload eX10_firstOf_47 rfl ?_
                      refine V_iload_n eX10_firstOf_49 rfl rfl ?_
                      refine V_icmp_gt (tgt := 164) eX10_firstOf_50 rfl (by omega) (fun c_50 => ?_) (fun c_50 => ?_)
                      · exact absurd c_50 (by omega)
                      · refine V_aload_n eX10_firstOf_53 rfl rfl ?_
                        refine V_getf eX10_firstOf_54 H_this rfl ?_
                        refine V_bipush eX10_firstOf_57 (by decide) ?_
                        refine V_iload_n eX10_firstOf_59 rfl rfl ?_
                        refine V_imul eX10_firstOf_60 ?_
                        refine V_iload eX10_firstOf_61 rfl ?_
                        refine V_iadd eX10_firstOf_63 ?_
                        refine V_iald eX10_firstOf_64 H_this_costs (by omega) ?_
                        rw [n1, q1]
                        refine V_aload_n eX10_firstOf_65 rfl rfl ?_
                        refine V_getf eX10_firstOf_66 H_this rfl ?_
                        refine V_bipush eX10_firstOf_69 (by decide) ?_
                        refine V_iload eX10_firstOf_71 rfl ?_
                        refine V_imul eX10_firstOf_73 ?_
                        refine V_iload eX10_firstOf_74 rfl ?_
                        refine V_iadd eX10_firstOf_76 ?_
                        refine V_iald eX10_firstOf_77 H_this_costs (by omega) ?_
                        rw [n2, q2]
                        refine V_iadd eX10_firstOf_78 ?_
                        refine V_istore eX10_firstOf_79 (Nat.le_of_ble_eq_true rfl) rfl (eb_sS (eb_sS (eb_sS (eb_sS (eb_sS (eb_sS (eb_sS eb_s0))))))) ?_
                        refine V_aload_n eX10_firstOf_81 rfl rfl ?_
                        refine V_getf eX10_firstOf_82 H_this rfl ?_
                        refine V_bipush eX10_firstOf_85 (by decide) ?_
                        refine V_iload_n eX10_firstOf_87 rfl rfl ?_
                        refine V_imul eX10_firstOf_88 ?_
                        refine V_iload eX10_firstOf_89 rfl ?_
                        refine V_iadd eX10_firstOf_91 ?_
                        refine V_iald eX10_firstOf_92 H_this_costs (by omega) ?_
                        rw [n3, q3]
                        refine V_aload_n eX10_firstOf_93 rfl rfl ?_
                        refine V_getf eX10_firstOf_94 H_this rfl ?_
                        refine V_bipush eX10_firstOf_97 (by decide) ?_
                        refine V_iload eX10_firstOf_99 rfl ?_
                        refine V_imul eX10_firstOf_101 ?_
                        refine V_iload eX10_firstOf_102 rfl ?_
                        refine V_iadd eX10_firstOf_104 ?_
                        refine V_iald eX10_firstOf_105 H_this_costs (by omega) ?_
                        rw [n4, q4]
                        refine V_iadd eX10_firstOf_106 ?_
                        refine V_istore eX10_firstOf_107 (Nat.le_of_ble_eq_true rfl) rfl (eb_sS (eb_sS (eb_sS (eb_sS (eb_sS (eb_sS (eb_sS (eb_sS eb_s0)))))))) ?_
                        refine V_iload_n eX10_firstOf_109 rfl rfl ?_
                        refine V_if_ne (tgt := 123) eX10_firstOf_110 rfl (by omega) (fun c_110 => ?_) (fun c_110 => ?_)
                        · exact absurd rfl c_110
                        · refine V_iload eX10_firstOf_113 rfl ?_
                          refine V_iload eX10_firstOf_115 rfl ?_
                          refine V_icmp_le (tgt := 158) eX10_firstOf_117 rfl (by omega) (fun c_117 => ?_) (fun c_117 => ?_)
                          · exact V_iinc eX10_firstOf_158 rfl rfl (eb_sS (eb_sS (eb_sS (eb_sS (eb_sS (eb_sS eb_s0)))))) (V_goto (tgt := 47) eX10_firstOf_161 rfl (nxt (fun z => by have := hpp.1 z; omega) _ _))
                          · refine V_goto (tgt := 130) eX10_firstOf_120 rfl ?_
                            refine V_bipush eX10_firstOf_130 (by decide) ?_
                            refine V_bipush eX10_firstOf_132 (by decide) ?_
                            refine V_bipush eX10_firstOf_134 (by decide) ?_
                            refine V_iload_n eX10_firstOf_136 rfl rfl ?_
                            refine V_iconst eX10_firstOf_137 ?_
                            refine V_iadd eX10_firstOf_138 ?_
                            refine V_imul eX10_firstOf_139 ?_
                            refine V_iload eX10_firstOf_140 rfl ?_
                            refine V_iadd eX10_firstOf_142 ?_
                            refine V_iconst eX10_firstOf_143 ?_
                            refine V_iadd eX10_firstOf_144 ?_
                            refine V_imul eX10_firstOf_145 ?_
                            refine V_iload eX10_firstOf_146 rfl ?_
                            refine V_iadd eX10_firstOf_148 ?_
                            refine V_iconst eX10_firstOf_149 ?_
                            refine V_iadd eX10_firstOf_150 ?_
                            refine V_imul eX10_firstOf_151 ?_
                            refine V_iload eX10_firstOf_152 rfl ?_
                            refine V_iadd eX10_firstOf_154 ?_
                            refine V_iconst eX10_firstOf_155 ?_
                            refine V_iadd eX10_firstOf_156 ?_
                            refine V_eqI (b := v) (fin (hpp.2 (by omega))) ?_
                            exact V_iret eX10_firstOf_157 ⟨Nat.zero_le _, Nat.zero_le _⟩ rfl (rfl) (⟨rfl, rfl, hG⟩)
                    · have hpp := pos.2 w2
                      subst w1
                      refine V_iload eX10_firstOf_47 rfl ?_
                      refine V_iload_n eX10_firstOf_49 rfl rfl ?_
                      refine V_icmp_gt (tgt := 164) eX10_firstOf_50 rfl (by omega) (fun c_50 => ?_) (fun c_50 => ?_)
                      · exact absurd c_50 (by omega)
                      · refine V_aload_n eX10_firstOf_53 rfl rfl ?_
                        refine V_getf eX10_firstOf_54 H_this rfl ?_
                        refine V_bipush eX10_firstOf_57 (by decide) ?_
                        refine V_iload_n eX10_firstOf_59 rfl rfl ?_
                        refine V_imul eX10_firstOf_60 ?_
                        refine V_iload eX10_firstOf_61 rfl ?_
                        refine V_iadd eX10_firstOf_63 ?_
                        refine V_iald eX10_firstOf_64 H_this_costs (by omega) ?_
                        rw [n1, q1]
                        refine V_aload_n eX10_firstOf_65 rfl rfl ?_
                        refine V_getf eX10_firstOf_66 H_this rfl ?_
                        refine V_bipush eX10_firstOf_69 (by decide) ?_
                        refine V_iload eX10_firstOf_71 rfl ?_
                        refine V_imul eX10_firstOf_73 ?_
                        refine V_iload eX10_firstOf_74 rfl ?_
                        refine V_iadd eX10_firstOf_76 ?_
                        refine V_iald eX10_firstOf_77 H_this_costs (by omega) ?_
                        rw [n2, q2]
                        refine V_iadd eX10_firstOf_78 ?_
                        refine V_istore eX10_firstOf_79 (Nat.le_of_ble_eq_true rfl) rfl (eb_sS (eb_sS (eb_sS (eb_sS (eb_sS (eb_sS (eb_sS eb_s0))))))) ?_
                        refine V_aload_n eX10_firstOf_81 rfl rfl ?_
                        refine V_getf eX10_firstOf_82 H_this rfl ?_
                        refine V_bipush eX10_firstOf_85 (by decide) ?_
                        refine V_iload_n eX10_firstOf_87 rfl rfl ?_
                        refine V_imul eX10_firstOf_88 ?_
                        refine V_iload eX10_firstOf_89 rfl ?_
                        refine V_iadd eX10_firstOf_91 ?_
                        refine V_iald eX10_firstOf_92 H_this_costs (by omega) ?_
                        rw [n3, q3]
                        refine V_aload_n eX10_firstOf_93 rfl rfl ?_
                        refine V_getf eX10_firstOf_94 H_this rfl ?_
                        refine V_bipush eX10_firstOf_97 (by decide) ?_
                        refine V_iload eX10_firstOf_99 rfl ?_
                        refine V_imul eX10_firstOf_101 ?_
                        refine V_iload eX10_firstOf_102 rfl ?_
                        refine V_iadd eX10_firstOf_104 ?_
                        refine V_iald eX10_firstOf_105 H_this_costs (by omega) ?_
                        rw [n4, q4]
                        refine V_iadd eX10_firstOf_106 ?_
                        refine V_istore eX10_firstOf_107 (Nat.le_of_ble_eq_true rfl) rfl (eb_sS (eb_sS (eb_sS (eb_sS (eb_sS (eb_sS (eb_sS (eb_sS eb_s0)))))))) ?_
                        refine V_iload_n eX10_firstOf_109 rfl rfl ?_
                        refine V_if_ne (tgt := 123) eX10_firstOf_110 rfl (by omega) (fun c_110 => ?_) (fun c_110 => ?_)
                        · refine V_iload eX10_firstOf_123 rfl ?_
                          refine V_iload eX10_firstOf_125 rfl ?_
                          refine V_icmp_ge (tgt := 158) eX10_firstOf_127 rfl (by omega) (fun c_127 => ?_) (fun c_127 => ?_)
                          · exact V_iinc eX10_firstOf_158 rfl rfl (eb_sS (eb_sS (eb_sS (eb_sS (eb_sS (eb_sS eb_s0)))))) (V_goto (tgt := 47) eX10_firstOf_161 rfl (nxt (fun z => by have := hpp.1 z; omega) _ _))
                          · refine V_bipush eX10_firstOf_130 (by decide) ?_
                            refine V_bipush eX10_firstOf_132 (by decide) ?_
                            refine V_bipush eX10_firstOf_134 (by decide) ?_
                            refine V_iload_n eX10_firstOf_136 rfl rfl ?_
                            refine V_iconst eX10_firstOf_137 ?_
                            refine V_iadd eX10_firstOf_138 ?_
                            refine V_imul eX10_firstOf_139 ?_
                            refine V_iload eX10_firstOf_140 rfl ?_
                            refine V_iadd eX10_firstOf_142 ?_
                            refine V_iconst eX10_firstOf_143 ?_
                            refine V_iadd eX10_firstOf_144 ?_
                            refine V_imul eX10_firstOf_145 ?_
                            refine V_iload eX10_firstOf_146 rfl ?_
                            refine V_iadd eX10_firstOf_148 ?_
                            refine V_iconst eX10_firstOf_149 ?_
                            refine V_iadd eX10_firstOf_150 ?_
                            refine V_imul eX10_firstOf_151 ?_
                            refine V_iload eX10_firstOf_152 rfl ?_
                            refine V_iadd eX10_firstOf_154 ?_
                            refine V_iconst eX10_firstOf_155 ?_
                            refine V_iadd eX10_firstOf_156 ?_
                            refine V_eqI (b := v) (fin (hpp.2 (by omega))) ?_
                            exact V_iret eX10_firstOf_157 ⟨Nat.zero_le _, Nat.zero_le _⟩ rfl (rfl) (⟨rfl, rfl, hG⟩)
                        · exact absurd c_110 (by decide)
                refine V_iload eX10_firstOf_35 rfl ?_
                refine V_iload_n eX10_firstOf_37 rfl rfl ?_
                refine V_icmp_gt (tgt := 170) eX10_firstOf_38 rfl (by omega) (fun c_38 => ?_) (fun c_38 => ?_)
                · exact absurd c_38 (by omega)
                · refine V_iload eX10_firstOf_41 rfl ?_
                  refine V_iconst eX10_firstOf_43 ?_
                  refine V_iadd eX10_firstOf_44 ?_
                  refine V_istore eX10_firstOf_45 (Nat.le_of_ble_eq_true rfl) rfl (eb_sS (eb_sS (eb_sS (eb_sS (eb_sS (eb_sS eb_s0)))))) ?_
                  exact ll (N - j) (j + 1) _ _ (by omega) (by omega) (fun l' a1 a2 => absurd a2 (by omega))
            refine V_iload eX10_firstOf_23 rfl ?_
            refine V_iload_n eX10_firstOf_25 rfl rfl ?_
            refine V_icmp_gt (tgt := 176) eX10_firstOf_26 rfl (by omega) (fun c_26 => ?_) (fun c_26 => ?_)
            · exact absurd c_26 (by omega)
            · refine V_iload eX10_firstOf_29 rfl ?_
              refine V_iconst eX10_firstOf_31 ?_
              refine V_iadd eX10_firstOf_32 ?_
              refine V_istore eX10_firstOf_33 (Nat.le_of_ble_eq_true rfl) rfl (eb_sS (eb_sS (eb_sS (eb_sS (eb_sS eb_s0))))) ?_
              exact lj (N - k) (k + 1) _ _ _ (by omega) (by omega) (fun j' l' a1 a2 => absurd a2 (by omega))
        refine V_iload_n eX10_firstOf_13 rfl rfl ?_
        refine V_iload_n eX10_firstOf_14 rfl rfl ?_
        refine V_icmp_gt (tgt := 182) eX10_firstOf_15 rfl (by omega) (fun c_15 => ?_) (fun c_15 => ?_)
        · exact absurd c_15 (by omega)
        · refine V_iload_n eX10_firstOf_18 rfl rfl ?_
          refine V_iconst eX10_firstOf_19 ?_
          refine V_iadd eX10_firstOf_20 ?_
          refine V_istore eX10_firstOf_21 (Nat.le_of_ble_eq_true rfl) rfl (eb_sS (eb_sS (eb_sS (eb_sS eb_s0)))) ?_
          exact lk (N - i) (i + 1) _ _ _ _ (by omega) (by omega) (fun k' j' l' a1 a2 => absurd a2 (by omega))
    exact li (N + 1) 0 _ _ _ _ _ (by omega) (fun i' k' j' l' a1 => absurd a1 (by omega))
  refine V_aload_n eX10_firstOf_0 rfl rfl ?_
  refine V_cvg eX10_firstOf_1 (TL) H_this rfl rfl (Nat.le_of_ble_eq_true rfl) ⟨rfl, rfl⟩ ⟨Nat.zero_le _, Nat.zero_le _⟩ (fun h1 ⟨⟨HM1, wd1, HW1, hwd1⟩, hfr1⟩ => ?_)
  show eb_V _ _ 4 _ [] _ _ _
  have H_this : h1 67 = mo c := (hfr1 67 (by omega)).trans H_this
  have H_this_st : h1 68 = _ := (hfr1 68 (by omega)).trans H_this_st
  obtain ⟨co, C1, C2⟩ := mlx h1 HM1
  refine V_aload_n eX10_firstOf_4 rfl rfl ?_
  refine V_getf eX10_firstOf_5 H_this rfl ?_
  refine V_iconst eX10_firstOf_8 ?_
  refine V_iald eX10_firstOf_9 H_this_st (by omega) ?_
  rw [e0]
  refine V_istore_n eX10_firstOf_10 rfl (Nat.le_of_ble_eq_true rfl) rfl (eb_sS (eb_sS eb_s0)) ?_
  refine V_iconst eX10_firstOf_11 ?_
  refine V_istore_n eX10_firstOf_12 rfl (Nat.le_of_ble_eq_true rfl) rfl (eb_sS (eb_sS (eb_sS eb_s0))) ?_
  exact main _ h1 co H_this C1 C2 ⟨⟨HM1.any, wd1, HW1⟩, hfr1⟩
end M4
