section M6
variable {n : Nat} {h : eb_H} {c : Nat → Int} {sf : Nat → Int} {T : TX}
theorem c_X10_best {wd : Nat → Int} {a d wh : Nat} (H_this : h 67 = mo c) (H_this_st : h 68 = eb_ia 525 sf) (hm : ms sf T) (HO : TX_ok T) (H_wd : h 73 = eb_ia 40 wd) (HM : mlany h) (ha : 1 ≤ a) (hd : a + d ≤ 200) (hwh : wh ≤ 1) : eb_T mX10_best [.ref 67, .int (eb_I (a : Int)), .int (eb_I ((a + d : Nat) : Int)), .int (eb_I (wh : Int))] n h (eb_G (some (.int (eb_I (if wh = 0 then (a : Int) + dp_a (fun i => dp_t (lt_c (TXq T (a + i))) T.1.length) (d + 1) else dp_m (fun i => dp_t (lt_c (TXq T (a + i))) T.1.length) (d + 1))))) n (fun h' => (mlany h' ∧ ∃ wd', h' 73 = eb_ia 40 wd') ∧ ∀ k, (k < 73 ∨ 77 < k) → h' k = h k)) := by
  refine eb_T.of (by decide +kernel) (Nat.le_of_ble_eq_true rfl) ?_
  show eb_V _ _ 0 [.ref 67, .int (eb_I (a : Int)), .int (eb_I ((a + d : Nat) : Int)), .int (eb_I (wh : Int)), eb_no, eb_no, eb_no, eb_no] [] (n, 0, 0) h _
  have hN : T.1.length ≤ 40 := HO.1.1
  have e0 : sf (0 : Int).toNat = (T.1.length : Int) := hm.1
  have TW := c_X10_measureWords (n := n) H_this H_this_st hm HO H_wd
  have hF : ∀ i, i ≤ d → 0 ≤ dp_t (lt_c (TXq T (a + i))) T.1.length ∧ dp_t (lt_c (TXq T (a + i))) T.1.length ≤ 13690099 := fun i hi => dp_t_r (lt_cok (TXq_ok HO (m := a + i) (by omega) (by omega))) _ (Nat.le_refl _)
  have TB : ∀ (h1 : eb_H) (wd1 : Nat → Int) (i : Nat), i ≤ d → h1 67 = mo c → h1 68 = eb_ia 525 sf → h1 73 = eb_ia 40 wd1 → (∀ w, w < T.1.length → wd1 w = tx_wf T.1 w) → mlany h1 → eb_T mX10_layBy [.ref 67, .int (eb_I ((a + i : Nat) : Int))] n h1 (eb_G none n (fun h' => ml h' (TXq T (a + i)) ∧ ∀ k, (k < 74 ∨ 77 < k) → h' k = h1 k)) := fun h1 wd1 i hi a1 a2 a3 a4 a5 => c_X10_layBy (n := n) a1 a2 hm HO a3 a4 (TXq_ok HO (m := a + i) (by omega) (by omega)) a5
  have mlx : ∀ h1 i, ml h1 (TXq T (a + i)) → ∃ to, h1 76 = eb_ia 41 to ∧ to T.1.length = (fun i => dp_t (lt_c (TXq T (a + i))) T.1.length) i := fun h1 i H => by
    obtain ⟨up, co, to, ow, U, C, O, W, q1, q2, q3, q4⟩ := H
    exact ⟨to, O, q3 _ (Nat.le_refl _)⟩
  generalize hFF : (fun i => dp_t (lt_c (TXq T (a + i))) T.1.length) = F at mlx ⊢
  have hFr : ∀ i, i ≤ d → 0 ≤ F i ∧ F i ≤ 13690099 := fun i hi => by rw [← hFF]; exact hF i hi
  have main : ∀ (G : eb_H → Prop) (h1 : eb_H) (wd1 : Nat → Int), h1 67 = mo c → h1 68 = eb_ia 525 sf → h1 73 = eb_ia 40 wd1 → (∀ w, w < T.1.length → wd1 w = tx_wf T.1 w) → (∀ h2, mlany h2 → (∀ k, (k < 74 ∨ 77 < k) → h2 k = h1 k) → G h2) → ∀ (q i : Nat) (h2 : eb_H) (bi : Int) (x7 : Value), i + q = d + 1 → ((i = 0 ∧ bi = -1) ∨ (0 < i ∧ bi = (a : Int) + dp_a F i)) → mlany h2 → (∀ k, (k < 74 ∨ 77 < k) → h2 k = h1 k) → eb_V mX10_best (fun _ _ _ => True) 56 [.ref 67, .int (eb_I (a : Int)), .int (eb_I ((a + d : Nat) : Int)), .int (eb_I (wh : Int)), .int (eb_I bi), .int (eb_I (dp_m F i)), .int (eb_I ((a + i : Nat) : Int)), x7] [] (n, 0, 0) h2 (eb_R mX10_best (eb_G (some (.int (eb_I (if wh = 0 then (a : Int) + dp_a F (d + 1) else dp_m F (d + 1))))) n G)) := by
    intro G h1 wd1 A1 A2 A3 A4 hG q
    induction q with
    | zero =>
      intro i h2 bi x7 hi hb HM2 hfr
      have : i = d + 1 := by omega
      subst this
      have hb' : bi = (a : Int) + dp_a F (d + 1) := by omega
      subst hb'
      by_cases y : wh = 0
      · rw [if_pos y]
        refine V_iload eX10_best_56 rfl ?_
        refine V_iload_n eX10_best_58 rfl rfl ?_
        refine V_icmp_gt (tgt := 119) eX10_best_59 rfl (by omega) (fun c_59 => ?_) (fun c_59 => ?_)
        · refine V_iload_n eX10_best_119 rfl rfl ?_
          refine V_if_ne (tgt := 128) eX10_best_120 rfl (by omega) (fun c_120 => ?_) (fun c_120 => ?_)
          · exact absurd (by omega) c_120
          · refine V_iload eX10_best_123 rfl ?_
            refine V_goto (tgt := 130) eX10_best_125 rfl ?_
            exact V_iret eX10_best_130 ⟨Nat.zero_le _, Nat.zero_le _⟩ rfl (rfl) (⟨rfl, rfl, hG h2 HM2 hfr⟩)
        · exact absurd (by omega) c_59
      · rw [if_neg y]
        refine V_iload eX10_best_56 rfl ?_
        refine V_iload_n eX10_best_58 rfl rfl ?_
        refine V_icmp_gt (tgt := 119) eX10_best_59 rfl (by omega) (fun c_59 => ?_) (fun c_59 => ?_)
        · refine V_iload_n eX10_best_119 rfl rfl ?_
          refine V_if_ne (tgt := 128) eX10_best_120 rfl (by omega) (fun c_120 => ?_) (fun c_120 => ?_)
          · refine V_iload eX10_best_128 rfl ?_
            exact V_iret eX10_best_130 ⟨Nat.zero_le _, Nat.zero_le _⟩ rfl (rfl) (⟨rfl, rfl, hG h2 HM2 hfr⟩)
          · exact absurd c_120 (by omega)
        · exact absurd (by omega) c_59
    | succ q ih =>
      intro i h2 bi x7 hi hb HM2 hfr
      have H_this : h2 67 = mo c := (hfr 67 (by omega)).trans A1
      have S2 : h2 68 = eb_ia 525 sf := (hfr 68 (by omega)).trans A2
      have W2 : h2 73 = eb_ia 40 wd1 := (hfr 73 (by omega)).trans A3
      have r1 := hFr i (by omega)
      have r2 := dp_m_top F i
      have r3 : 0 ≤ dp_m F i := by
        rcases Int.lt_or_le (dp_m F i) 2000000000 with q | q
        · obtain ⟨a, a1, a2⟩ := dp_m_att i q
          have := hFr a (by omega)
          omega
        · omega
      have em : dp_m F (i + 1) = if F i < dp_m F i then F i else dp_m F i := rfl
      have ea : dp_a F (i + 1) = if F i < dp_m F i then (i : Int) else dp_a F i := rfl
      have nxt : ∀ h3 bi x7, ((i + 1 = 0 ∧ bi = -1) ∨ (0 < i + 1 ∧ bi = (a : Int) + dp_a F (i + 1))) → mlany h3 → (∀ k, (k < 74 ∨ 77 < k) → h3 k = h1 k) → _ := fun h3 bi x7 => ih (i + 1) h3 bi x7 (by omega)
      by_cases y : F i < dp_m F i
      · rw [em, ea, if_pos y, if_pos y] at nxt
        refine V_iload eX10_best_56 rfl ?_
        refine V_iload_n eX10_best_58 rfl rfl ?_
        refine V_icmp_gt (tgt := 119) eX10_best_59 rfl (by omega) (fun c_59 => ?_) (fun c_59 => ?_)
        · exact absurd c_59 (by omega)
        · refine V_aload_n eX10_best_62 rfl rfl ?_
          refine V_iload eX10_best_63 rfl ?_
          refine V_cvg eX10_best_65 (TB h2 wd1 i (by omega) H_this S2 W2 A4 HM2) H_this rfl rfl (Nat.le_of_ble_eq_true rfl) ⟨rfl, rfl⟩ ⟨Nat.zero_le _, Nat.zero_le _⟩ (fun h3 ⟨HM3, hfr3⟩ => ?_)
          show eb_V _ _ 68 _ [] _ _ _
          have H_this : h3 67 = mo c := (hfr3 67 (by omega)).trans H_this
          have H_this_st : h3 68 = _ := (hfr3 68 (by omega)).trans S2
          obtain ⟨to, H_this_totals, hto⟩ := mlx h3 i HM3
          refine V_aload_n eX10_best_68 rfl rfl ?_
          refine V_getf eX10_best_69 H_this rfl ?_
          refine V_aload_n eX10_best_72 rfl rfl ?_
          refine V_getf eX10_best_73 H_this rfl ?_
          refine V_iconst eX10_best_76 ?_
          refine V_iald eX10_best_77 H_this_st (by omega) ?_
          rw [e0]
          refine V_iald eX10_best_78 H_this_totals (by omega) ?_
          rw [Int.toNat_natCast, hto]
          refine V_istore eX10_best_79 (Nat.le_of_ble_eq_true rfl) rfl (eb_sS (eb_sS (eb_sS (eb_sS (eb_sS (eb_sS (eb_sS eb_s0))))))) ?_
          refine V_iload eX10_best_81 rfl ?_
          refine V_iload eX10_best_83 rfl ?_
          refine V_icmp_ge (tgt := 93) eX10_best_85 rfl (by omega) (fun c_85 => ?_) (fun c_85 => ?_)
          · exact absurd y (by omega)
          · refine V_iload eX10_best_88 rfl ?_
            refine V_goto (tgt := 95) eX10_best_90 rfl ?_
            refine V_istore eX10_best_95 (Nat.le_of_ble_eq_true rfl) rfl (eb_sS (eb_sS (eb_sS (eb_sS eb_s0)))) ?_
            refine V_iload eX10_best_97 rfl ?_
            refine V_iload eX10_best_99 rfl ?_
            refine V_icmp_ge (tgt := 109) eX10_best_101 rfl (by omega) (fun c_101 => ?_) (fun c_101 => ?_)
            · exact absurd y (by omega)
            · refine V_iload eX10_best_104 rfl ?_
              refine V_goto (tgt := 111) eX10_best_106 rfl ?_
              refine V_istore eX10_best_111 (Nat.le_of_ble_eq_true rfl) rfl (eb_sS (eb_sS (eb_sS (eb_sS (eb_sS eb_s0))))) ?_
              refine V_iinc eX10_best_113 rfl rfl (eb_sS (eb_sS (eb_sS (eb_sS (eb_sS (eb_sS eb_s0)))))) ?_
              refine V_goto (tgt := 56) eX10_best_116 rfl ?_
              exact nxt h3 _ _ (Or.inr ⟨by omega, by omega⟩) HM3.any (fun k hk => (hfr3 k hk).trans (hfr k hk))
      · rw [em, ea, if_neg y, if_neg y] at nxt
        have hi0 : 0 < i := by
          rcases Nat.eq_zero_or_pos i with z | z
          · subst z
            have : dp_m F 0 = 2000000000 := rfl
            omega
          · exact z
        refine V_iload eX10_best_56 rfl ?_
        refine V_iload_n eX10_best_58 rfl rfl ?_
        refine V_icmp_gt (tgt := 119) eX10_best_59 rfl (by omega) (fun c_59 => ?_) (fun c_59 => ?_)
        · exact absurd c_59 (by omega)
        · refine V_aload_n eX10_best_62 rfl rfl ?_
          refine V_iload eX10_best_63 rfl ?_
          refine V_cvg eX10_best_65 (TB h2 wd1 i (by omega) H_this S2 W2 A4 HM2) H_this rfl rfl (Nat.le_of_ble_eq_true rfl) ⟨rfl, rfl⟩ ⟨Nat.zero_le _, Nat.zero_le _⟩ (fun h3 ⟨HM3, hfr3⟩ => ?_)
          show eb_V _ _ 68 _ [] _ _ _
          have H_this : h3 67 = mo c := (hfr3 67 (by omega)).trans H_this
          have H_this_st : h3 68 = _ := (hfr3 68 (by omega)).trans S2
          obtain ⟨to, H_this_totals, hto⟩ := mlx h3 i HM3
          refine V_aload_n eX10_best_68 rfl rfl ?_
          refine V_getf eX10_best_69 H_this rfl ?_
          refine V_aload_n eX10_best_72 rfl rfl ?_
          refine V_getf eX10_best_73 H_this rfl ?_
          refine V_iconst eX10_best_76 ?_
          refine V_iald eX10_best_77 H_this_st (by omega) ?_
          rw [e0]
          refine V_iald eX10_best_78 H_this_totals (by omega) ?_
          rw [Int.toNat_natCast, hto]
          refine V_istore eX10_best_79 (Nat.le_of_ble_eq_true rfl) rfl (eb_sS (eb_sS (eb_sS (eb_sS (eb_sS (eb_sS (eb_sS eb_s0))))))) ?_
          refine V_iload eX10_best_81 rfl ?_
          refine V_iload eX10_best_83 rfl ?_
          refine V_icmp_ge (tgt := 93) eX10_best_85 rfl (by omega) (fun c_85 => ?_) (fun c_85 => ?_)
          · refine V_iload eX10_best_93 rfl ?_
            refine V_istore eX10_best_95 (Nat.le_of_ble_eq_true rfl) rfl (eb_sS (eb_sS (eb_sS (eb_sS eb_s0)))) ?_
            refine V_iload eX10_best_97 rfl ?_
            refine V_iload eX10_best_99 rfl ?_
            refine V_icmp_ge (tgt := 109) eX10_best_101 rfl (by omega) (fun c_101 => ?_) (fun c_101 => ?_)
            · refine V_iload eX10_best_109 rfl ?_
              refine V_istore eX10_best_111 (Nat.le_of_ble_eq_true rfl) rfl (eb_sS (eb_sS (eb_sS (eb_sS (eb_sS eb_s0))))) ?_
              refine V_iinc eX10_best_113 rfl rfl (eb_sS (eb_sS (eb_sS (eb_sS (eb_sS (eb_sS eb_s0)))))) ?_
              refine V_goto (tgt := 56) eX10_best_116 rfl ?_
              exact nxt h3 _ _ (Or.inr ⟨by omega, by omega⟩) HM3.any (fun k hk => (hfr3 k hk).trans (hfr k hk))
            · exact absurd (by omega) y
          · exact absurd (by omega) y
  refine V_iload_n eX10_best_0 rfl rfl ?_
  refine V_i2lI eX10_best_1 (by omega) ?_
  refine V_lconst (b := 1) eX10_best_2 (by decide) ?_
  refine V_ldc2 (a := 200) eX10_best_3 wd_1009 (by decide) ?_
  refine V_csi eX10_best_6 (c_X10_in (by omega)) rfl rfl (Nat.le_of_ble_eq_true rfl) ⟨rfl, rfl⟩ ⟨Nat.zero_le _, Nat.zero_le _⟩ ?_
  rw [if_pos (show (1 : Int) ≤ (a : Int) ∧ (a : Int) ≤ 200 by omega)]
  refine V_if_eq (tgt := 39) eX10_best_9 rfl (by omega) (fun c_9 => ?_) (fun c_9 => ?_)
  · exact absurd c_9 (by decide)
  · refine V_iload_n eX10_best_12 rfl rfl ?_
    refine V_i2lI eX10_best_13 (by omega) ?_
    refine V_lconst (b := 1) eX10_best_14 (by decide) ?_
    refine V_ldc2 (a := 200) eX10_best_15 wd_1009 (by decide) ?_
    refine V_csi eX10_best_18 (c_X10_in (by omega)) rfl rfl (Nat.le_of_ble_eq_true rfl) ⟨rfl, rfl⟩ ⟨Nat.zero_le _, Nat.zero_le _⟩ ?_
    rw [if_pos (show (1 : Int) ≤ ((a + d : Nat) : Int) ∧ ((a + d : Nat) : Int) ≤ 200 by omega)]
    refine V_if_eq (tgt := 39) eX10_best_21 rfl (by omega) (fun c_21 => ?_) (fun c_21 => ?_)
    · exact absurd c_21 (by decide)
    · refine V_iload_n eX10_best_24 rfl rfl ?_
      refine V_iload_n eX10_best_25 rfl rfl ?_
      refine V_icmp_gt (tgt := 39) eX10_best_26 rfl (by omega) (fun c_26 => ?_) (fun c_26 => ?_)
      · exact absurd c_26 (by omega)
      · refine V_iload_n eX10_best_29 rfl rfl ?_
        refine V_i2lI eX10_best_30 (by omega) ?_
        refine V_lconst (b := 0) eX10_best_31 (by decide) ?_
        refine V_lconst (b := 1) eX10_best_32 (by decide) ?_
        refine V_csi eX10_best_33 (c_X10_in (by omega)) rfl rfl (Nat.le_of_ble_eq_true rfl) ⟨rfl, rfl⟩ ⟨Nat.zero_le _, Nat.zero_le _⟩ ?_
        rw [if_pos (show (0 : Int) ≤ (wh : Int) ∧ (wh : Int) ≤ 1 by omega)]
        refine V_if_ne (tgt := 42) eX10_best_36 rfl (by omega) (fun c_36 => ?_) (fun c_36 => ?_)
        · refine V_aload_n eX10_best_42 rfl rfl ?_
          refine V_cvg eX10_best_43 (TW) H_this rfl rfl (Nat.le_of_ble_eq_true rfl) ⟨rfl, rfl⟩ ⟨Nat.zero_le _, Nat.zero_le _⟩ (fun h1 ⟨⟨wd1, HW1, hwd1⟩, hfr1⟩ => ?_)
          show eb_V _ _ 46 _ [] _ _ _
          refine V_iconst eX10_best_46 ?_
          refine V_istore eX10_best_47 (Nat.le_of_ble_eq_true rfl) rfl (eb_sS (eb_sS (eb_sS (eb_sS eb_s0)))) ?_
          refine V_ldc (a := 2000000000) eX10_best_49 wd_870 (by decide) ?_
          refine V_istore eX10_best_51 (Nat.le_of_ble_eq_true rfl) rfl (eb_sS (eb_sS (eb_sS (eb_sS (eb_sS eb_s0))))) ?_
          refine V_iload_n eX10_best_53 rfl rfl ?_
          refine V_istore eX10_best_54 (Nat.le_of_ble_eq_true rfl) rfl (eb_sS (eb_sS (eb_sS (eb_sS (eb_sS (eb_sS eb_s0)))))) ?_
          exact main _ h1 wd1 ((hfr1 67 (by omega)).trans H_this) ((hfr1 68 (by omega)).trans H_this_st) HW1 hwd1 (fun h2 b1 b2 => ⟨⟨b1, wd1, (b2 73 (by omega)).trans HW1⟩, fun k hk => (b2 k (by omega)).trans (hfr1 k (by omega))⟩) (d + 1) 0 h1 (-1) _ (by omega) (Or.inl ⟨rfl, rfl⟩) (HM.kept (fun k x y => hfr1 k (by omega))) (fun _ _ => rfl)
        · exact absurd c_36 (by decide)
theorem c_X10_rivers {wd be : Nat → Int} (H_this : h 67 = mo c) (H_this_st : h 68 = eb_ia 525 sf) (hm : ms sf T) (HO : TX_ok T) (H_wd : h 73 = eb_ia 40 wd) (HM : mlany h) (H_be : h 78 = eb_ia 42 be) : eb_T mX10_rivers [.ref 67] n h (eb_G (some (.int (eb_I (rv (lt_pl (tx_wf T.1)) (lt_B (txq T)) T.1.length)))) n (fun h' => mlines h' T c ∧ ∀ k, (k < 73 ∨ 78 < k) → k ≠ 67 → h' k = h k)) := by
  refine eb_T.of (by decide +kernel) (Nat.le_of_ble_eq_true rfl) ?_
  show eb_V _ _ 0 [.ref 67, eb_no, eb_no, eb_no, eb_no] [] (n, 0, 0) h _
  have hN : T.1.length ≤ 40 := HO.1.1
  have TL := c_X10_layLines (n := n) H_this H_this_st hm HO H_wd HM H_be
  obtain ⟨u1, u2⟩ := lt_B_up (tx_lok HO)
  have hplr : ∀ e, e ≤ T.1.length → 0 ≤ lt_pl (tx_wf T.1) e ∧ lt_pl (tx_wf T.1) e ≤ 3640 := fun e he => by
    have := lt_pl_r (tx_wok HO) e he
    omega
  have mlx : ∀ h1, mlines h1 T c → ∃ up be, h1 67 = mo (eb_set c 16 ((lt_B (txq T)).length : Int)) ∧ h1 74 = eb_ia 41 up ∧ h1 78 = eb_ia 42 be ∧ (∀ e, e ≤ T.1.length → up e = lt_pl (tx_wf T.1) e) ∧ (∀ k, k < (lt_B (txq T)).length → be k = ((lt_B (txq T)).getD k 0 : Int) ∧ be (k + 1) = (rv_e (lt_B (txq T)) T.1.length k : Int)) := fun h1 H => by
    obtain ⟨⟨A, be, b1, b2, b3⟩, ⟨up, co, to, ow, U, C, O, W, q1, q2, q3, q4⟩, z⟩ := H
    refine ⟨up, be, A, U, b1, q1, fun k hk => ⟨?_, ?_⟩⟩
    · rw [b2 k hk]
      simp [hk]
    · unfold rv_e
      by_cases y : k + 1 < (lt_B (txq T)).length
      · rw [if_pos y, b2 _ y]
        simp [y]
      · rw [if_neg y, show k + 1 = (lt_B (txq T)).length by omega, b3]
  have u1' : ∀ x ∈ lt_B (txq T), x < T.1.length := u1
  have hlB : (lt_B (txq T)).length ≤ 40 := Nat.le_trans (br_len u1' u2) hN
  generalize lt_pl (tx_wf T.1) = pl at hplr mlx ⊢
  have main : ∀ (G : eb_H → Prop) (h1 : eb_H), G h1 → mlines h1 T c → ∀ x3 x4 : Value, eb_V mX10_rivers (fun _ _ _ => True) 8 [.ref 67, .int (eb_I 0), .int (eb_I 1), x3, x4] [] (n, 0, 0) h1 (eb_R mX10_rivers (eb_G (some (.int (eb_I (rv pl (lt_B (txq T)) T.1.length)))) n G)) := by
    intro G h1 hG HL1
    obtain ⟨up, be, H_this, H_this_upTo, H_this_begins, hup, hbe⟩ := mlx h1 HL1
    have BA : ∀ k, k < (lt_B (txq T)).length → (lt_B (txq T)).getD k 0 < T.1.length ∧ (lt_B (txq T)).getD k 0 < rv_e (lt_B (txq T)) T.1.length k ∧ rv_e (lt_B (txq T)) T.1.length k ≤ T.1.length := fun k hk => B_at u1' u2 hk
    have c16 : eb_set c 16 ((lt_B (txq T)).length : Int) 16 = ((lt_B (txq T)).length : Int) := rfl
    have rve : ∀ k, k + 1 < (lt_B (txq T)).length → rv_e (lt_B (txq T)) T.1.length k = (lt_B (txq T)).getD (k + 1) 0 := fun k hk => by unfold rv_e; rw [if_pos hk]
    generalize lt_B (txq T) = B at *
    generalize T.1.length = N at *
    have lk : ∀ (d i : Nat) (x3 x4 : Value), i + d = B.length - 1 → eb_V mX10_rivers (fun _ _ _ => True) 8 [.ref 67, .int (eb_I (sm (rv_l pl B N) 1 i)), .int (eb_I ((1 + i : Nat) : Int)), x3, x4] [] (n, 0, 0) h1 (eb_R mX10_rivers (eb_G (some (.int (eb_I (rv pl B N)))) n G)) := by
      intro d
      induction d with
      | zero =>
        intro i x3 x4 hi
        have : i = B.length - 1 := by omega
        subst this
        refine V_iload_n eX10_rivers_8 rfl rfl ?_
        refine V_aload_n eX10_rivers_9 rfl rfl ?_
        refine V_getf eX10_rivers_10 H_this rfl ?_
        show eb_V _ _ 13 _ [.int (eb_I (B.length : Int)), _] _ _ _
        refine V_icmp_ge (tgt := 128) eX10_rivers_13 rfl (by omega) (fun c_13 => ?_) (fun c_13 => ?_)
        · refine V_iload_n eX10_rivers_128 rfl rfl ?_
          exact V_iret eX10_rivers_129 ⟨Nat.zero_le _, Nat.zero_le _⟩ rfl (rfl) (⟨rfl, rfl, hG⟩)
        · exact absurd (by omega) c_13
      | succ d ih =>
        intro i x3 x4 hi
        obtain ⟨p1, p2, p3⟩ := BA (1 + i) (by omega)
        obtain ⟨p4, p5, p6⟩ := BA i (by omega)
        have p7 := rve i (by omega)
        rw [Nat.add_comm i 1] at p7
        obtain ⟨q1, q2⟩ := hbe (1 + i) (by omega)
        obtain ⟨q3, q4⟩ := hbe i (by omega)
        have n1 : (((1 + i : Nat) : Int)).toNat = 1 + i := by omega
        have n2 : (((1 + i : Nat) : Int) + 1).toNat = 1 + i + 1 := by omega
        have n3 : (((1 + i : Nat) : Int) - 1).toNat = i := by omega
        generalize hlo : B.getD i 0 = lo at *
        generalize hhi : B.getD (1 + i) 0 = hi' at *
        generalize hen : rv_e B N (1 + i) = en at *
        rw [p7] at p5 p6
        have r1 := hplr lo (by omega)
        have r2 := hplr hi' (by omega)
        have el : rv_l pl B N (1 + i) = sm (fun e => rv_g pl lo hi' (pl e - pl hi' - 1)) (hi' + 1) (en - hi' - 1) := by
          unfold rv_l
          rw [show 1 + i - 1 = i by omega, hlo, hhi, hen]
        have lw : ∀ (d2 j : Nat) (x4 : Value), j + d2 = en - hi' - 1 → eb_V mX10_rivers (fun _ _ _ => True) 25 [.ref 67, .int (eb_I (sm (rv_l pl B N) 1 i + sm (fun e => rv_g pl lo hi' (pl e - pl hi' - 1)) (hi' + 1) j)), .int (eb_I ((1 + i : Nat) : Int)), .int (eb_I ((hi' + 1 + j : Nat) : Int)), x4] [] (n, 0, 0) h1 (eb_R mX10_rivers (eb_G (some (.int (eb_I (rv pl B N)))) n G)) := by
          intro d2
          induction d2 with
          | zero =>
            intro j x4 hj
            have : j = en - hi' - 1 := by omega
            have nx := fun x3 x4 => ih (i + 1) x3 x4 (by omega)
            rw [show sm (rv_l pl B N) 1 (i + 1) = sm (rv_l pl B N) 1 i + rv_l pl B N (1 + i) from rfl, el, ← this] at nx
            refine V_iload_n eX10_rivers_25 rfl rfl ?_
            refine V_aload_n eX10_rivers_26 rfl rfl ?_
            refine V_getf eX10_rivers_27 H_this rfl ?_
            refine V_iload_n eX10_rivers_30 rfl rfl ?_
            refine V_iconst eX10_rivers_31 ?_
            refine V_iadd eX10_rivers_32 ?_
            refine V_iald eX10_rivers_33 H_this_begins (by omega) ?_
            rw [n2, q2]
            refine V_icmp_ge (tgt := 122) eX10_rivers_34 rfl (by omega) (fun c_34 => ?_) (fun c_34 => ?_)
            · refine V_iinc eX10_rivers_122 rfl rfl (eb_sS (eb_sS eb_s0)) ?_
              refine V_goto (tgt := 8) eX10_rivers_125 rfl ?_
              exact nx _ _
            · exact absurd (by omega) c_34
          | succ d2 ihw =>
            intro j x4 hj
            have r3 := hplr (hi' + 1 + j) (by omega)
            have lv : ∀ (d3 l : Nat), l + d3 = hi' - lo - 1 → eb_V mX10_rivers (fun _ _ _ => True) 49 [.ref 67, .int (eb_I (sm (rv_l pl B N) 1 i + sm (fun e => rv_g pl lo hi' (pl e - pl hi' - 1)) (hi' + 1) j + sm (fun v => if pl v - pl lo - 1 = pl (hi' + 1 + j) - pl hi' - 1 then 1 else 0) (lo + 1) l)), .int (eb_I ((1 + i : Nat) : Int)), .int (eb_I ((hi' + 1 + j : Nat) : Int)), .int (eb_I ((lo + 1 + l : Nat) : Int))] [] (n, 0, 0) h1 (eb_R mX10_rivers (eb_G (some (.int (eb_I (rv pl B N)))) n G)) := by
              intro d3
              induction d3 with
              | zero =>
                intro l hl
                have : l = hi' - lo - 1 := by omega
                have nx := fun x4 => ihw (j + 1) x4 (by omega)
                rw [show sm (fun e => rv_g pl lo hi' (pl e - pl hi' - 1)) (hi' + 1) (j + 1) = sm (fun e => rv_g pl lo hi' (pl e - pl hi' - 1)) (hi' + 1) j + sm (fun v => if pl v - pl lo - 1 = pl (hi' + 1 + j) - pl hi' - 1 then 1 else 0) (lo + 1) l by rw [this]; rfl, ← Int.add_assoc] at nx
                refine V_iload eX10_rivers_49 rfl ?_
                refine V_aload_n eX10_rivers_51 rfl rfl ?_
                refine V_getf eX10_rivers_52 H_this rfl ?_
                refine V_iload_n eX10_rivers_55 rfl rfl ?_
                refine V_iald eX10_rivers_56 H_this_begins (by omega) ?_
                rw [n1, q1]
                refine V_icmp_ge (tgt := 116) eX10_rivers_57 rfl (by omega) (fun c_57 => ?_) (fun c_57 => ?_)
                · refine V_iinc eX10_rivers_116 rfl rfl (eb_sS (eb_sS (eb_sS eb_s0))) ?_
                  refine V_goto (tgt := 25) eX10_rivers_119 rfl ?_
                  exact nx _
                · exact absurd (by omega) c_57
              | succ d3 ihv =>
                intro l hl
                have r4 := hplr (lo + 1 + l) (by omega)
                have nx := ihv (l + 1) (by omega)
                rw [show sm (fun v => if pl v - pl lo - 1 = pl (hi' + 1 + j) - pl hi' - 1 then (1 : Int) else 0) (lo + 1) (l + 1) = sm (fun v => if pl v - pl lo - 1 = pl (hi' + 1 + j) - pl hi' - 1 then (1 : Int) else 0) (lo + 1) l + (if pl (lo + 1 + l) - pl lo - 1 = pl (hi' + 1 + j) - pl hi' - 1 then 1 else 0) from rfl, ← Int.add_assoc] at nx
                have u3 := hup (hi' + 1 + j) (by omega)
                have u4 := hup (lo + 1 + l) (by omega)
                have u5 := hup hi' (by omega)
                have u6 := hup lo (by omega)
                by_cases y : pl (lo + 1 + l) - pl lo - 1 = pl (hi' + 1 + j) - pl hi' - 1
                · rw [if_pos y] at nx
                  refine V_iload eX10_rivers_49 rfl ?_
                  refine V_aload_n eX10_rivers_51 rfl rfl ?_
                  refine V_getf eX10_rivers_52 H_this rfl ?_
                  refine V_iload_n eX10_rivers_55 rfl rfl ?_
                  refine V_iald eX10_rivers_56 H_this_begins (by omega) ?_
                  rw [n1, q1]
                  refine V_icmp_ge (tgt := 116) eX10_rivers_57 rfl (by omega) (fun c_57 => ?_) (fun c_57 => ?_)
                  · exact absurd c_57 (by omega)
                  · refine V_iload_n eX10_rivers_60 rfl rfl ?_
                    refine V_aload_n eX10_rivers_61 rfl rfl ?_
                    refine V_getf eX10_rivers_62 H_this rfl ?_
                    refine V_iload_n eX10_rivers_65 rfl rfl ?_
                    refine V_iald eX10_rivers_66 H_this_upTo (by omega) ?_
                    rw [Int.toNat_natCast, u3]
                    refine V_aload_n eX10_rivers_67 rfl rfl ?_
                    refine V_getf eX10_rivers_68 H_this rfl ?_
                    refine V_aload_n eX10_rivers_71 rfl rfl ?_
                    refine V_getf eX10_rivers_72 H_this rfl ?_
                    refine V_iload_n eX10_rivers_75 rfl rfl ?_
                    refine V_iald eX10_rivers_76 H_this_begins (by omega) ?_
                    rw [n1, q1]
                    refine V_iald eX10_rivers_77 H_this_upTo (by omega) ?_
                    rw [Int.toNat_natCast, u5]
                    refine V_isub eX10_rivers_78 ?_
                    refine V_aload_n eX10_rivers_79 rfl rfl ?_
                    refine V_getf eX10_rivers_80 H_this rfl ?_
                    refine V_iload eX10_rivers_83 rfl ?_
                    refine V_iald eX10_rivers_85 H_this_upTo (by omega) ?_
                    rw [Int.toNat_natCast, u4]
                    refine V_aload_n eX10_rivers_86 rfl rfl ?_
                    refine V_getf eX10_rivers_87 H_this rfl ?_
                    refine V_aload_n eX10_rivers_90 rfl rfl ?_
                    refine V_getf eX10_rivers_91 H_this rfl ?_
                    refine V_iload_n eX10_rivers_94 rfl rfl ?_
                    refine V_iconst eX10_rivers_95 ?_
                    refine V_isub eX10_rivers_96 ?_
                    refine V_iald eX10_rivers_97 H_this_begins (by omega) ?_
                    rw [n3, q3]
                    refine V_iald eX10_rivers_98 H_this_upTo (by omega) ?_
                    rw [Int.toNat_natCast, u6]
                    refine V_isub eX10_rivers_99 ?_
                    refine V_icmp_ne (tgt := 107) eX10_rivers_100 rfl (by omega) (fun c_100 => ?_) (fun c_100 => ?_)
                    · exact absurd c_100 (by omega)
                    · refine V_iconst eX10_rivers_103 ?_
                      refine V_goto (tgt := 108) eX10_rivers_104 rfl ?_
                      refine V_iadd eX10_rivers_108 ?_
                      refine V_istore_n eX10_rivers_109 rfl (Nat.le_of_ble_eq_true rfl) rfl (eb_sS eb_s0) ?_
                      refine V_iinc eX10_rivers_110 rfl rfl (eb_sS (eb_sS (eb_sS (eb_sS eb_s0)))) ?_
                      refine V_goto (tgt := 49) eX10_rivers_113 rfl ?_
                      exact nx
                · rw [if_neg y] at nx
                  refine V_iload eX10_rivers_49 rfl ?_
                  refine V_aload_n eX10_rivers_51 rfl rfl ?_
                  refine V_getf eX10_rivers_52 H_this rfl ?_
                  refine V_iload_n eX10_rivers_55 rfl rfl ?_
                  refine V_iald eX10_rivers_56 H_this_begins (by omega) ?_
                  rw [n1, q1]
                  refine V_icmp_ge (tgt := 116) eX10_rivers_57 rfl (by omega) (fun c_57 => ?_) (fun c_57 => ?_)
                  · exact absurd c_57 (by omega)
                  · refine V_iload_n eX10_rivers_60 rfl rfl ?_
                    refine V_aload_n eX10_rivers_61 rfl rfl ?_
                    refine V_getf eX10_rivers_62 H_this rfl ?_
                    refine V_iload_n eX10_rivers_65 rfl rfl ?_
                    refine V_iald eX10_rivers_66 H_this_upTo (by omega) ?_
                    rw [Int.toNat_natCast, u3]
                    refine V_aload_n eX10_rivers_67 rfl rfl ?_
                    refine V_getf eX10_rivers_68 H_this rfl ?_
                    refine V_aload_n eX10_rivers_71 rfl rfl ?_
                    refine V_getf eX10_rivers_72 H_this rfl ?_
                    refine V_iload_n eX10_rivers_75 rfl rfl ?_
                    refine V_iald eX10_rivers_76 H_this_begins (by omega) ?_
                    rw [n1, q1]
                    refine V_iald eX10_rivers_77 H_this_upTo (by omega) ?_
                    rw [Int.toNat_natCast, u5]
                    refine V_isub eX10_rivers_78 ?_
                    refine V_aload_n eX10_rivers_79 rfl rfl ?_
                    refine V_getf eX10_rivers_80 H_this rfl ?_
                    refine V_iload eX10_rivers_83 rfl ?_
                    refine V_iald eX10_rivers_85 H_this_upTo (by omega) ?_
                    rw [Int.toNat_natCast, u4]
                    refine V_aload_n eX10_rivers_86 rfl rfl ?_
                    refine V_getf eX10_rivers_87 H_this rfl ?_
                    refine V_aload_n eX10_rivers_90 rfl rfl ?_
                    refine V_getf eX10_rivers_91 H_this rfl ?_
                    refine V_iload_n eX10_rivers_94 rfl rfl ?_
                    refine V_iconst eX10_rivers_95 ?_
                    refine V_isub eX10_rivers_96 ?_
                    refine V_iald eX10_rivers_97 H_this_begins (by omega) ?_
                    rw [n3, q3]
                    refine V_iald eX10_rivers_98 H_this_upTo (by omega) ?_
                    rw [Int.toNat_natCast, u6]
                    refine V_isub eX10_rivers_99 ?_
                    refine V_icmp_ne (tgt := 107) eX10_rivers_100 rfl (by omega) (fun c_100 => ?_) (fun c_100 => ?_)
                    · refine V_iconst eX10_rivers_107 ?_
                      refine V_iadd eX10_rivers_108 ?_
                      refine V_istore_n eX10_rivers_109 rfl (Nat.le_of_ble_eq_true rfl) rfl (eb_sS eb_s0) ?_
                      refine V_iinc eX10_rivers_110 rfl rfl (eb_sS (eb_sS (eb_sS (eb_sS eb_s0)))) ?_
                      refine V_goto (tgt := 49) eX10_rivers_113 rfl ?_
                      exact nx
                    · exact absurd (by omega) y
            have l0 := lv (hi' - lo - 1) 0 (by omega)
            rw [show sm (fun v => if pl v - pl lo - 1 = pl (hi' + 1 + j) - pl hi' - 1 then (1 : Int) else 0) (lo + 1) 0 = 0 from rfl, Int.add_zero] at l0
            refine V_iload_n eX10_rivers_25 rfl rfl ?_
            refine V_aload_n eX10_rivers_26 rfl rfl ?_
            refine V_getf eX10_rivers_27 H_this rfl ?_
            refine V_iload_n eX10_rivers_30 rfl rfl ?_
            refine V_iconst eX10_rivers_31 ?_
            refine V_iadd eX10_rivers_32 ?_
            refine V_iald eX10_rivers_33 H_this_begins (by omega) ?_
            rw [n2, q2]
            refine V_icmp_ge (tgt := 122) eX10_rivers_34 rfl (by omega) (fun c_34 => ?_) (fun c_34 => ?_)
            · exact absurd c_34 (by omega)
            · refine V_aload_n eX10_rivers_37 rfl rfl ?_
              refine V_getf eX10_rivers_38 H_this rfl ?_
              refine V_iload_n eX10_rivers_41 rfl rfl ?_
              refine V_iconst eX10_rivers_42 ?_
              refine V_isub eX10_rivers_43 ?_
              refine V_iald eX10_rivers_44 H_this_begins (by omega) ?_
              rw [n3, q3]
              refine V_iconst eX10_rivers_45 ?_
              refine V_iadd eX10_rivers_46 ?_
              refine V_istore eX10_rivers_47 (Nat.le_of_ble_eq_true rfl) rfl (eb_sS (eb_sS (eb_sS (eb_sS eb_s0)))) ?_
              exact l0
        have l0 := fun x => lw (en - hi' - 1) 0 x (by omega)
        rw [show sm (fun e => rv_g pl lo hi' (pl e - pl hi' - 1)) (hi' + 1) 0 = 0 from rfl, Int.add_zero] at l0
        refine V_iload_n eX10_rivers_8 rfl rfl ?_
        refine V_aload_n eX10_rivers_9 rfl rfl ?_
        refine V_getf eX10_rivers_10 H_this rfl ?_
        show eb_V _ _ 13 _ [.int (eb_I (B.length : Int)), _] _ _ _
        refine V_icmp_ge (tgt := 128) eX10_rivers_13 rfl (by omega) (fun c_13 => ?_) (fun c_13 => ?_)
        · exact absurd c_13 (by omega)
        · refine V_aload_n eX10_rivers_16 rfl rfl ?_
          refine V_getf eX10_rivers_17 H_this rfl ?_
          refine V_iload_n eX10_rivers_20 rfl rfl ?_
          refine V_iald eX10_rivers_21 H_this_begins (by omega) ?_
          rw [n1, q1]
          refine V_iconst eX10_rivers_22 ?_
          refine V_iadd eX10_rivers_23 ?_
          refine V_istore_n eX10_rivers_24 rfl (Nat.le_of_ble_eq_true rfl) rfl (eb_sS (eb_sS (eb_sS eb_s0))) ?_
          exact l0 _
    exact fun x3 x4 => lk (B.length - 1) 0 x3 x4 (by omega)
  refine V_aload_n eX10_rivers_0 rfl rfl ?_
  refine V_cvg eX10_rivers_1 (TL) H_this rfl rfl (Nat.le_of_ble_eq_true rfl) ⟨rfl, rfl⟩ ⟨Nat.zero_le _, Nat.zero_le _⟩ (fun h1 ⟨HL1, hfr1⟩ => ?_)
  show eb_V _ _ 4 _ [] _ _ _
  refine V_iconst eX10_rivers_4 ?_
  refine V_istore_n eX10_rivers_5 rfl (Nat.le_of_ble_eq_true rfl) rfl (eb_sS eb_s0) ?_
  refine V_iconst eX10_rivers_6 ?_
  refine V_istore_n eX10_rivers_7 rfl (Nat.le_of_ble_eq_true rfl) rfl (eb_sS (eb_sS eb_s0)) ?_
  exact main _ h1 ⟨HL1, hfr1⟩ HL1 _ _
theorem c_X10_wrongEntry {wd be bo : Nat → Int} {es : List (Int × Int)} (H_this : h 67 = mo c) (H_this_st : h 68 = eb_ia 525 sf) (hm : ms sf T) (HO : TX_ok T) (H_wd : h 73 = eb_ia 40 wd) (HM : mlany h) (H_be : h 78 = eb_ia 42 be) (H_bo : h 81 = eb_ia 40 bo) (hes : bk_ok es) (h21 : c 21 = (es.length : Int)) (hbo : ∀ k (hk : k < es.length), bo (2 * k) = es[k].1 ∧ bo (2 * k + 1) = es[k].2) : eb_T mX10_wrongEntry [.ref 67] n h (eb_G (some (.int (eb_I (bw (lt_B (txq T)) es 0)))) n (fun h' => mlines h' T c ∧ ∀ k, (k < 73 ∨ 78 < k) → k ≠ 67 → h' k = h k)) := by
  refine eb_T.of (by decide +kernel) (Nat.le_of_ble_eq_true rfl) ?_
  show eb_V _ _ 0 [.ref 67, eb_no, eb_no, eb_no] [] (n, 0, 0) h _
  have hN : T.1.length ≤ 40 := HO.1.1
  have hl := hes.1
  have TL := c_X10_layLines (n := n) H_this H_this_st hm HO H_wd HM H_be
  obtain ⟨u1, u2⟩ := lt_B_up (tx_lok HO)
  have u1' : ∀ x ∈ lt_B (txq T), x < 41 := fun x hx => by have := u1 x hx; simp only at this; omega
  have hlB : (lt_B (txq T)).length ≤ 40 := Nat.le_trans (br_len u1 u2) hN
  have main : ∀ (G : eb_H → Prop) (h1 : eb_H), G h1 → h1 81 = eb_ia 40 bo → mlines h1 T c → ∀ x2 x3 : Value, eb_V mX10_wrongEntry (fun _ _ _ => True) 6 [.ref 67, .int (eb_I 0), x2, x3] [] (n, 0, 0) h1 (eb_R mX10_wrongEntry (eb_G (some (.int (eb_I (bw (lt_B (txq T)) es 0)))) n G)) := by
    intro G h1 hG H_this_book HL1
    obtain ⟨⟨H_this, be1, H_this_begins, hlb, -⟩, -⟩ := HL1
    generalize lt_B (txq T) = B at *
    have loop : ∀ (d i : Nat) (x2 x3 : Value), i + d = es.length → bw B (es.drop i) i = bw B es 0 → eb_V mX10_wrongEntry (fun _ _ _ => True) 6 [.ref 67, .int (eb_I (i : Int)), x2, x3] [] (n, 0, 0) h1 (eb_R mX10_wrongEntry (eb_G (some (.int (eb_I (bw B es 0)))) n G)) := by
      intro d
      induction d with
      | zero =>
        intro i x2 x3 hi hbw
        have : i = es.length := by omega
        subst this
        rw [List.drop_length] at hbw
        rw [← hbw]
        refine V_iload_n eX10_wrongEntry_6 rfl rfl ?_
        refine V_aload_n eX10_wrongEntry_7 rfl rfl ?_
        refine V_getf eX10_wrongEntry_8 H_this rfl ?_
        show eb_V _ _ 11 _ [.int (eb_I (c 21)), _] _ _ _
        rw [h21]
        refine V_icmp_ge (tgt := 64) eX10_wrongEntry_11 rfl (by omega) (fun c_11 => ?_) (fun c_11 => ?_)
        · refine V_iconst eX10_wrongEntry_64 ?_
          exact V_iret eX10_wrongEntry_65 ⟨Nat.zero_le _, Nat.zero_le _⟩ rfl (rfl) (⟨rfl, rfl, hG⟩)
        · exact absurd (by omega) c_11
      | succ d ih =>
        intro i x2 x3 hi hbw
        have hil : i < es.length := by omega
        obtain ⟨r1, r2⟩ := hes.2 es[i] (List.getElem_mem hil)
        obtain ⟨e1, e2⟩ := hbo i hil
        have n1 : ((2 : Int) * (i : Int)).toNat = 2 * i := by omega
        have n2 : ((2 : Int) * (i : Int) + 1).toNat = 2 * i + 1 := by omega
        rw [List.drop_eq_getElem_cons hil] at hbw
        simp only [bw] at hbw
        have rB : -1 ≤ bO B es[i].1 ∧ bO B es[i].1 ≤ 100 := by
          unfold bO
          split
          · rename_i c
            have c2 : es[i].1.toNat < B.length := by omega
            have := u1' B[es[i].1.toNat] (List.getElem_mem c2)
            simp [c2]
            omega
          · omega
        have tl : ∀ v : Int, v = bO B es[i].1 → eb_V mX10_wrongEntry (fun _ _ _ => True) 41 [.ref 67, .int (eb_I (i : Int)), .int (eb_I es[i].1), x3] [.int (eb_I v)] (n, 0, 0) h1 (eb_R mX10_wrongEntry (eb_G (some (.int (eb_I (bw B es 0)))) n G)) := by
          intro v hv
          subst hv
          by_cases y : bO B es[i].1 ≠ es[i].2
          · rw [if_pos y] at hbw
            rw [← hbw]
            refine V_istore_n eX10_wrongEntry_41 rfl (Nat.le_of_ble_eq_true rfl) rfl (eb_sS (eb_sS (eb_sS eb_s0))) ?_
            refine V_iload_n eX10_wrongEntry_42 rfl rfl ?_
            refine V_aload_n eX10_wrongEntry_43 rfl rfl ?_
            refine V_getf eX10_wrongEntry_44 H_this rfl ?_
            refine V_iconst eX10_wrongEntry_47 ?_
            refine V_iload_n eX10_wrongEntry_48 rfl rfl ?_
            refine V_imul eX10_wrongEntry_49 ?_
            refine V_iconst eX10_wrongEntry_50 ?_
            refine V_iadd eX10_wrongEntry_51 ?_
            refine V_iald eX10_wrongEntry_52 H_this_book (by omega) ?_
            rw [n2, e2]
            refine V_icmp_eq (tgt := 58) eX10_wrongEntry_53 rfl (by omega) (fun c_53 => ?_) (fun c_53 => ?_)
            · exact absurd c_53 y
            · refine V_iload_n eX10_wrongEntry_56 rfl rfl ?_
              exact V_iret eX10_wrongEntry_57 ⟨Nat.zero_le _, Nat.zero_le _⟩ rfl (rfl) (⟨rfl, rfl, hG⟩)
          · rw [if_neg y] at hbw
            refine V_istore_n eX10_wrongEntry_41 rfl (Nat.le_of_ble_eq_true rfl) rfl (eb_sS (eb_sS (eb_sS eb_s0))) ?_
            refine V_iload_n eX10_wrongEntry_42 rfl rfl ?_
            refine V_aload_n eX10_wrongEntry_43 rfl rfl ?_
            refine V_getf eX10_wrongEntry_44 H_this rfl ?_
            refine V_iconst eX10_wrongEntry_47 ?_
            refine V_iload_n eX10_wrongEntry_48 rfl rfl ?_
            refine V_imul eX10_wrongEntry_49 ?_
            refine V_iconst eX10_wrongEntry_50 ?_
            refine V_iadd eX10_wrongEntry_51 ?_
            refine V_iald eX10_wrongEntry_52 H_this_book (by omega) ?_
            rw [n2, e2]
            refine V_icmp_eq (tgt := 58) eX10_wrongEntry_53 rfl (by omega) (fun c_53 => ?_) (fun c_53 => ?_)
            · refine V_iinc eX10_wrongEntry_58 rfl rfl (eb_sS eb_s0) ?_
              refine V_goto (tgt := 6) eX10_wrongEntry_61 rfl ?_
              exact ih (i + 1) _ _ (by omega) hbw
            · exact absurd c_53 y
        by_cases y : es[i].1 < (B.length : Int)
        · have c2 : es[i].1.toNat < B.length := by omega
          have e3 : bO B es[i].1 = (B[es[i].1.toNat] : Int) := by
            unfold bO
            rw [if_pos (by omega)]
            simp [c2]
          refine V_iload_n eX10_wrongEntry_6 rfl rfl ?_
          refine V_aload_n eX10_wrongEntry_7 rfl rfl ?_
          refine V_getf eX10_wrongEntry_8 H_this rfl ?_
          show eb_V _ _ 11 _ [.int (eb_I (c 21)), _] _ _ _
          rw [h21]
          refine V_icmp_ge (tgt := 64) eX10_wrongEntry_11 rfl (by omega) (fun c_11 => ?_) (fun c_11 => ?_)
          · exact absurd c_11 (by omega)
          · refine V_aload_n eX10_wrongEntry_14 rfl rfl ?_
            refine V_getf eX10_wrongEntry_15 H_this rfl ?_
            refine V_iconst eX10_wrongEntry_18 ?_
            refine V_iload_n eX10_wrongEntry_19 rfl rfl ?_
            refine V_imul eX10_wrongEntry_20 ?_
            refine V_iald eX10_wrongEntry_21 H_this_book (by omega) ?_
            rw [n1, e1]
            refine V_istore_n eX10_wrongEntry_22 rfl (Nat.le_of_ble_eq_true rfl) rfl (eb_sS (eb_sS eb_s0)) ?_
            refine V_iload_n eX10_wrongEntry_23 rfl rfl ?_
            refine V_aload_n eX10_wrongEntry_24 rfl rfl ?_
            refine V_getf eX10_wrongEntry_25 H_this rfl ?_
            show eb_V _ _ 28 _ [.int (eb_I (B.length : Int)), _] _ _ _
            refine V_icmp_ge (tgt := 40) eX10_wrongEntry_28 rfl (by omega) (fun c_28 => ?_) (fun c_28 => ?_)
            · exact absurd y (by omega)
            · refine V_aload_n eX10_wrongEntry_31 rfl rfl ?_
              refine V_getf eX10_wrongEntry_32 H_this rfl ?_
              refine V_iload_n eX10_wrongEntry_35 rfl rfl ?_
              refine V_iald eX10_wrongEntry_36 H_this_begins (by omega) ?_
              rw [hlb _ c2]
              refine V_goto (tgt := 41) eX10_wrongEntry_37 rfl ?_
              exact tl _ e3.symm
        · have e3 : bO B es[i].1 = -1 := by
            unfold bO
            rw [if_neg (by omega)]
          refine V_iload_n eX10_wrongEntry_6 rfl rfl ?_
          refine V_aload_n eX10_wrongEntry_7 rfl rfl ?_
          refine V_getf eX10_wrongEntry_8 H_this rfl ?_
          show eb_V _ _ 11 _ [.int (eb_I (c 21)), _] _ _ _
          rw [h21]
          refine V_icmp_ge (tgt := 64) eX10_wrongEntry_11 rfl (by omega) (fun c_11 => ?_) (fun c_11 => ?_)
          · exact absurd c_11 (by omega)
          · refine V_aload_n eX10_wrongEntry_14 rfl rfl ?_
            refine V_getf eX10_wrongEntry_15 H_this rfl ?_
            refine V_iconst eX10_wrongEntry_18 ?_
            refine V_iload_n eX10_wrongEntry_19 rfl rfl ?_
            refine V_imul eX10_wrongEntry_20 ?_
            refine V_iald eX10_wrongEntry_21 H_this_book (by omega) ?_
            rw [n1, e1]
            refine V_istore_n eX10_wrongEntry_22 rfl (Nat.le_of_ble_eq_true rfl) rfl (eb_sS (eb_sS eb_s0)) ?_
            refine V_iload_n eX10_wrongEntry_23 rfl rfl ?_
            refine V_aload_n eX10_wrongEntry_24 rfl rfl ?_
            refine V_getf eX10_wrongEntry_25 H_this rfl ?_
            show eb_V _ _ 28 _ [.int (eb_I (B.length : Int)), _] _ _ _
            refine V_icmp_ge (tgt := 40) eX10_wrongEntry_28 rfl (by omega) (fun c_28 => ?_) (fun c_28 => ?_)
            · refine V_iconst eX10_wrongEntry_40 ?_
              exact tl _ e3.symm
            · exact absurd (by omega) y
    exact fun x2 x3 => loop es.length 0 x2 x3 (by omega) rfl
  refine V_aload_n eX10_wrongEntry_0 rfl rfl ?_
  refine V_cvg eX10_wrongEntry_1 (TL) H_this rfl rfl (Nat.le_of_ble_eq_true rfl) ⟨rfl, rfl⟩ ⟨Nat.zero_le _, Nat.zero_le _⟩ (fun h1 ⟨HL1, hfr1⟩ => ?_)
  show eb_V _ _ 4 _ [] _ _ _
  refine V_iconst eX10_wrongEntry_4 ?_
  refine V_istore_n eX10_wrongEntry_5 rfl (Nat.le_of_ble_eq_true rfl) rfl (eb_sS eb_s0) ?_
  exact main _ h1 ⟨HL1, hfr1⟩ ((hfr1 81 (by omega) (by omega)).trans H_bo) HL1 _ _
end M6
