section M8
variable {n : Nat} {h : eb_H} {c : Nat → Int} {sf : Nat → Int} {T : TX}
theorem c_X10_lookOf {wd be se b0 i0 : Nat → Int} {sees : List (Nat × Bool)} (H_this : h 67 = mo c) (H_this_st : h 68 = eb_ia 525 sf) (hm : ms sf T) (HO : TX_ok T) (H_wd : h 73 = eb_ia 40 wd) (HM : mlany h) (H_be : h 78 = eb_ia 42 be) (H_se : h 80 = eb_ia 12 se) (hsu : su_ok sees) (h19 : c 19 = (sees.length : Int)) (hse : ∀ k (hk : k < sees.length), se (2 * k) = (sees[k].1 : Int) ∧ se (2 * k + 1) = if sees[k].2 then 1 else 0) (H_bb : h 82 = eb_la 201 b0) (H_ib : h 83 = eb_za 201 i0) : eb_T mX10_lookOf [.ref 67] n h (eb_G (some (.int (eb_I (lk_F (fun e => sm (su_E (bmT T) sees e) 1 200) (sm (su_F (bmT T) sees) 1 200) (T.1.length + 1)).1))) n (fun h' => ((∃ c2 bb ib, h' 67 = mo c2 ∧ mk c c2 ∧ h' 82 = eb_la 201 bb ∧ h' 83 = eb_za 201 ib) ∧ mlany h' ∧ (∃ wd, h' 73 = eb_ia 40 wd) ∧ ∃ be, h' 78 = eb_ia 42 be) ∧ ∀ k, (k < 73 ∨ 78 < k) → k ≠ 67 → k ≠ 82 → k ≠ 83 → h' k = h k)) := by
  refine eb_T.of (by decide +kernel) (Nat.le_of_ble_eq_true rfl) ?_
  show eb_V _ _ 0 [.ref 67, eb_no, eb_no, eb_no, eb_no, eb_no] [] (n, 0, 0) h _
  have hN : T.1.length ≤ 40 := HO.1.1
  have e0 : sf (0 : Int).toNat = (T.1.length : Int) := hm.1
  have TL := c_X10_layMeasures (n := n) H_this H_this_st hm HO H_wd HM H_be H_se hsu h19 hse H_bb H_ib
  have bl : ∀ m, 1 ≤ m → m ≤ 200 → bmT T m < 2 ^ 41 := fun m h1 h2 => br_mk_lt (fun x hx => by
    have := (lt_B_up (TXq_ok HO h1 h2)).1 x hx
    exact Nat.lt_of_lt_of_le this (Nat.le_trans hN (by omega)))
  have main : ∀ (G : eb_H → Prop) (h1 : eb_H) (c2 bb ib : Nat → Int), G h1 → h1 67 = mo c2 → lmV (bmT T) sees c 201 c2 → h1 82 = eb_la 201 bb → h1 83 = eb_za 201 ib → lmA (bmT T) sees 201 bb ib → h1 68 = eb_ia 525 sf → eb_V mX10_lookOf (fun _ _ _ => True) 4 [.ref 67, eb_no, eb_no, eb_no, eb_no, eb_no] [] (n, 0, 0) h1 (eb_R mX10_lookOf (eb_G (some (.int (eb_I (lk_F (fun e => sm (su_E (bmT T) sees e) 1 200) (sm (su_F (bmT T) sees) 1 200) (T.1.length + 1)).1))) n G)) := by
    intro G h1 c2 bb ib hG H_this hV H_this_beginsBy H_this_isBy hA H_this_st
    have c24 : c2 24 = sm (su_F (bmT T) sees) 1 200 := hV.2.1
    have hall := sm_r1 (su_F_r (bmT T) sees) 1 200
    have hP : ∀ e d, 0 ≤ sm (su_E (bmT T) sees e) 1 d ∧ sm (su_E (bmT T) sees e) 1 d ≤ d := fun e d => sm_r1 (su_E_r (bmT T) sees e) 1 d
    have hP2 : ∀ e, 0 ≤ (fun e => sm (su_E (bmT T) sees e) 1 200) e ∧ (fun e => sm (su_E (bmT T) sees e) 1 200) e ≤ 200 := fun e => hP e 200
    generalize hPP : (fun e => sm (su_E (bmT T) sees e) 1 200) = P at hP2 ⊢
    generalize sm (su_F (bmT T) sees) 1 200 = all at hall c24 ⊢
    have hL : ∀ i, -200 ≤ (lk_F P all i).2 ∧ (lk_F P all i).2 ≤ 200 := fun i => by
      induction i with
      | zero => simp only [lk_F]; omega
      | succ i ih =>
        have := hP2 i
        simp only [lk_F]
        split
        · simp only; omega
        · exact ih
    have loop : ∀ (d e : Nat) (x4 x5 : Value), e + d = T.1.length + 1 → eb_V mX10_lookOf (fun _ _ _ => True) 13 [.ref 67, .int (eb_I (lk_F P all e).1), .int (eb_I (lk_F P all e).2), .int (eb_I (e : Int)), x4, x5] [] (n, 0, 0) h1 (eb_R mX10_lookOf (eb_G (some (.int (eb_I (lk_F P all (T.1.length + 1)).1))) n G)) := by
      intro d
      induction d with
      | zero =>
        intro e x4 x5 he
        have : e = T.1.length + 1 := by omega
        subst this
        refine V_iload_n eX10_lookOf_13 rfl rfl ?_
        refine V_aload_n eX10_lookOf_14 rfl rfl ?_
        refine V_getf eX10_lookOf_15 H_this rfl ?_
        refine V_iconst eX10_lookOf_18 ?_
        refine V_iald eX10_lookOf_19 H_this_st (by omega) ?_
        rw [e0]
        refine V_icmp_gt (tgt := 136) eX10_lookOf_20 rfl (by omega) (fun c_20 => ?_) (fun c_20 => ?_)
        · refine V_iload_n eX10_lookOf_136 rfl rfl ?_
          exact V_iret eX10_lookOf_137 ⟨Nat.zero_le _, Nat.zero_le _⟩ rfl (rfl) (⟨rfl, rfl, hG⟩)
        · exact absurd (by omega) c_20
      | succ d ih =>
        intro e x4 x5 he
        have h2 := hL e
        have h3 := hP2 e
        have e1 : lk_F P all (e + 1) = if max (P e) (all - P e) < (lk_F P all e).2 then ((e : Int), max (P e) (all - P e)) else lk_F P all e := rfl
        have tl : ∀ (v : Int) (x4 : Int32), v = max (P e) (all - P e) → eb_V mX10_lookOf (fun _ _ _ => True) 103 [.ref 67, .int (eb_I (lk_F P all e).1), .int (eb_I (lk_F P all e).2), .int (eb_I (e : Int)), .int x4, .int (eb_I 201)] [.int (eb_I v)] (n, 0, 0) h1 (eb_R mX10_lookOf (eb_G (some (.int (eb_I (lk_F P all (T.1.length + 1)).1))) n G)) := by
          intro v x4 hv
          have nx := ih (e + 1)
          rw [e1] at nx
          by_cases y : max (P e) (all - P e) < (lk_F P all e).2
          · rw [if_pos y, ← hv] at nx
            refine V_istore eX10_lookOf_103 (Nat.le_of_ble_eq_true rfl) rfl (eb_sS (eb_sS (eb_sS (eb_sS (eb_sS eb_s0))))) ?_
            refine V_iload eX10_lookOf_105 rfl ?_
            refine V_iload_n eX10_lookOf_107 rfl rfl ?_
            refine V_icmp_ge (tgt := 115) eX10_lookOf_108 rfl (by omega) (fun c_108 => ?_) (fun c_108 => ?_)
            · exact absurd c_108 (by omega)
            · refine V_iload_n eX10_lookOf_111 rfl rfl ?_
              refine V_goto (tgt := 116) eX10_lookOf_112 rfl ?_
              refine V_istore_n eX10_lookOf_116 rfl (Nat.le_of_ble_eq_true rfl) rfl (eb_sS eb_s0) ?_
              refine V_iload eX10_lookOf_117 rfl ?_
              refine V_iload_n eX10_lookOf_119 rfl rfl ?_
              refine V_icmp_ge (tgt := 128) eX10_lookOf_120 rfl (by omega) (fun c_120 => ?_) (fun c_120 => ?_)
              · exact absurd c_120 (by omega)
              · refine V_iload eX10_lookOf_123 rfl ?_
                refine V_goto (tgt := 129) eX10_lookOf_125 rfl ?_
                refine V_istore_n eX10_lookOf_129 rfl (Nat.le_of_ble_eq_true rfl) rfl (eb_sS (eb_sS eb_s0)) ?_
                refine V_iinc eX10_lookOf_130 rfl rfl (eb_sS (eb_sS (eb_sS eb_s0))) ?_
                refine V_goto (tgt := 13) eX10_lookOf_133 rfl ?_
                exact nx _ _ (by omega)
          · rw [if_neg y] at nx
            refine V_istore eX10_lookOf_103 (Nat.le_of_ble_eq_true rfl) rfl (eb_sS (eb_sS (eb_sS (eb_sS (eb_sS eb_s0))))) ?_
            refine V_iload eX10_lookOf_105 rfl ?_
            refine V_iload_n eX10_lookOf_107 rfl rfl ?_
            refine V_icmp_ge (tgt := 115) eX10_lookOf_108 rfl (by omega) (fun c_108 => ?_) (fun c_108 => ?_)
            · refine V_iload_n eX10_lookOf_115 rfl rfl ?_
              refine V_istore_n eX10_lookOf_116 rfl (Nat.le_of_ble_eq_true rfl) rfl (eb_sS eb_s0) ?_
              refine V_iload eX10_lookOf_117 rfl ?_
              refine V_iload_n eX10_lookOf_119 rfl rfl ?_
              refine V_icmp_ge (tgt := 128) eX10_lookOf_120 rfl (by omega) (fun c_120 => ?_) (fun c_120 => ?_)
              · refine V_iload_n eX10_lookOf_128 rfl rfl ?_
                refine V_istore_n eX10_lookOf_129 rfl (Nat.le_of_ble_eq_true rfl) rfl (eb_sS (eb_sS eb_s0)) ?_
                refine V_iinc eX10_lookOf_130 rfl rfl (eb_sS (eb_sS (eb_sS eb_s0))) ?_
                refine V_goto (tgt := 13) eX10_lookOf_133 rfl ?_
                exact nx _ _ (by omega)
              · exact absurd c_120 (by omega)
            · exact absurd c_108 (by omega)
        have lm : ∀ (d2 i : Nat), i + d2 = 200 → eb_V mX10_lookOf (fun _ _ _ => True) 29 [.ref 67, .int (eb_I (lk_F P all e).1), .int (eb_I (lk_F P all e).2), .int (eb_I (e : Int)), .int (eb_I (sm (su_E (bmT T) sees e) 1 i)), .int (eb_I ((1 + i : Nat) : Int))] [] (n, 0, 0) h1 (eb_R mX10_lookOf (eb_G (some (.int (eb_I (lk_F P all (T.1.length + 1)).1))) n G)) := by
          intro d2
          induction d2 with
          | zero =>
            intro i hi
            have : i = 200 := by omega
            subst this
            have eP : sm (su_E (bmT T) sees e) 1 200 = P e := by rw [← hPP]
            rw [eP]
            refine V_iload eX10_lookOf_29 rfl ?_
            refine V_sipush eX10_lookOf_31 (by decide) ?_
            refine V_icmp_gt (tgt := 79) eX10_lookOf_34 rfl (by omega) (fun c_34 => ?_) (fun c_34 => ?_)
            · refine V_iload eX10_lookOf_79 rfl ?_
              refine V_aload_n eX10_lookOf_81 rfl rfl ?_
              refine V_getf eX10_lookOf_82 H_this rfl ?_
              rw [c24]
              refine V_iload eX10_lookOf_85 rfl ?_
              refine V_isub eX10_lookOf_87 ?_
              refine V_icmp_le (tgt := 96) eX10_lookOf_88 rfl (by omega) (fun c_88 => ?_) (fun c_88 => ?_)
              · refine V_aload_n eX10_lookOf_96 rfl rfl ?_
                refine V_getf eX10_lookOf_97 H_this rfl ?_
                rw [c24]
                refine V_iload eX10_lookOf_100 rfl ?_
                refine V_isub eX10_lookOf_102 ?_
                exact tl _ _ (by omega)
              · refine V_iload eX10_lookOf_91 rfl ?_
                refine V_goto (tgt := 103) eX10_lookOf_93 rfl ?_
                exact tl _ _ (by omega)
            · exact absurd (by omega) c_34
          | succ d2 ihm =>
            intro i hi
            obtain ⟨a1, a2⟩ := hA (1 + i) (by omega) (by omega)
            have hbm := bl (1 + i) (by omega) (by omega)
            have hb62 : bmT T (1 + i) < 2 ^ 62 := by omega
            have hb64 : bmT T (1 + i) / 2 ^ e < 2 ^ 64 := Nat.lt_of_le_of_lt (Nat.div_le_self _ _) (by omega)
            have tb := br_bit (bmT T (1 + i)) e
            have tl2 : bmT T (1 + i) / 2 ^ e % 2 < 2 := Nat.mod_lt _ (by decide)
            have nx := ihm (i + 1) (by omega)
            rw [show sm (su_E (bmT T) sees e) 1 (i + 1) = sm (su_E (bmT T) sees e) 1 i + su_E (bmT T) sees e (1 + i) from rfl] at nx
            by_cases y : ft (bmT T (1 + i)) sees = true
            · have f1 : su_F (bmT T) sees (1 + i) = 1 := by unfold su_F; rw [if_pos y]
              by_cases y2 : (bmT T (1 + i)).testBit e = true
              · have f2 : su_E (bmT T) sees e (1 + i) = 1 := by unfold su_E; rw [if_pos ⟨y, y2⟩]
                rw [f2] at nx
                rw [if_pos y2] at tb
                have e2 : ((bmT T (1 + i) / 2 ^ e % 2 : Nat) : Int) = 1 := by omega
                refine V_iload eX10_lookOf_29 rfl ?_
                refine V_sipush eX10_lookOf_31 (by decide) ?_
                refine V_icmp_gt (tgt := 79) eX10_lookOf_34 rfl (by omega) (fun c_34 => ?_) (fun c_34 => ?_)
                · exact absurd c_34 (by omega)
                · refine V_iload eX10_lookOf_37 rfl ?_
                  refine V_aload_n eX10_lookOf_39 rfl rfl ?_
                  refine V_getf eX10_lookOf_40 H_this rfl ?_
                  refine V_iload eX10_lookOf_43 rfl ?_
                  refine V_zald eX10_lookOf_45 H_this_isBy (by omega) ?_
                  rw [Int.toNat_natCast, a2, f1]
                  refine V_if_eq (tgt := 69) eX10_lookOf_46 rfl (by omega) (fun c_46 => ?_) (fun c_46 => ?_)
                  · exact absurd c_46 (by decide)
                  · refine V_aload_n eX10_lookOf_49 rfl rfl ?_
                    refine V_getf eX10_lookOf_50 H_this rfl ?_
                    refine V_iload eX10_lookOf_53 rfl ?_
                    refine V_lald eX10_lookOf_55 H_this_beginsBy (by omega) ?_
                    rw [Int.toNat_natCast, a1]
                    refine V_iload_n eX10_lookOf_56 rfl rfl ?_
                    refine V_lshr eX10_lookOf_57 (eb_shr hb62 (by omega)) ?_
                    refine V_lconst (b := 1) eX10_lookOf_58 (by decide) ?_
                    refine V_land eX10_lookOf_59 (eb_and1 hb64) ?_
                    refine V_lconst (b := 1) eX10_lookOf_60 (by decide) ?_
                    refine V_lcmpI eX10_lookOf_61 (⟨by omega, by omega⟩) ?_
                    rw [eb_cmp0 e2]
                    refine V_if_ne (tgt := 69) eX10_lookOf_62 rfl (by omega) (fun c_62 => ?_) (fun c_62 => ?_)
                    · exact absurd rfl c_62
                    · refine V_iconst eX10_lookOf_65 ?_
                      refine V_goto (tgt := 70) eX10_lookOf_66 rfl ?_
                      refine V_iadd eX10_lookOf_70 ?_
                      refine V_istore eX10_lookOf_71 (Nat.le_of_ble_eq_true rfl) rfl (eb_sS (eb_sS (eb_sS (eb_sS eb_s0)))) ?_
                      refine V_iinc eX10_lookOf_73 rfl rfl (eb_sS (eb_sS (eb_sS (eb_sS (eb_sS eb_s0))))) ?_
                      refine V_goto (tgt := 29) eX10_lookOf_76 rfl ?_
                      exact nx
              · have f2 : su_E (bmT T) sees e (1 + i) = 0 := by unfold su_E; rw [if_neg (fun z => y2 z.2)]
                rw [f2] at nx
                rw [if_neg y2] at tb
                have e2 : ¬ ((bmT T (1 + i) / 2 ^ e % 2 : Nat) : Int) = 1 := by omega
                obtain ⟨w, w1, w2, w3, w4⟩ := eb_cmpn e2
                refine V_iload eX10_lookOf_29 rfl ?_
                refine V_sipush eX10_lookOf_31 (by decide) ?_
                refine V_icmp_gt (tgt := 79) eX10_lookOf_34 rfl (by omega) (fun c_34 => ?_) (fun c_34 => ?_)
                · exact absurd c_34 (by omega)
                · refine V_iload eX10_lookOf_37 rfl ?_
                  refine V_aload_n eX10_lookOf_39 rfl rfl ?_
                  refine V_getf eX10_lookOf_40 H_this rfl ?_
                  refine V_iload eX10_lookOf_43 rfl ?_
                  refine V_zald eX10_lookOf_45 H_this_isBy (by omega) ?_
                  rw [Int.toNat_natCast, a2, f1]
                  refine V_if_eq (tgt := 69) eX10_lookOf_46 rfl (by omega) (fun c_46 => ?_) (fun c_46 => ?_)
                  · exact absurd c_46 (by decide)
                  · refine V_aload_n eX10_lookOf_49 rfl rfl ?_
                    refine V_getf eX10_lookOf_50 H_this rfl ?_
                    refine V_iload eX10_lookOf_53 rfl ?_
                    refine V_lald eX10_lookOf_55 H_this_beginsBy (by omega) ?_
                    rw [Int.toNat_natCast, a1]
                    refine V_iload_n eX10_lookOf_56 rfl rfl ?_
                    refine V_lshr eX10_lookOf_57 (eb_shr hb62 (by omega)) ?_
                    refine V_lconst (b := 1) eX10_lookOf_58 (by decide) ?_
                    refine V_land eX10_lookOf_59 (eb_and1 hb64) ?_
                    refine V_lconst (b := 1) eX10_lookOf_60 (by decide) ?_
                    refine V_lcmpI eX10_lookOf_61 (⟨by omega, by omega⟩) ?_
                    rw [w1]
                    refine V_if_ne (tgt := 69) eX10_lookOf_62 rfl (by omega) (fun c_62 => ?_) (fun c_62 => ?_)
                    · refine V_iconst eX10_lookOf_69 ?_
                      refine V_iadd eX10_lookOf_70 ?_
                      refine V_istore eX10_lookOf_71 (Nat.le_of_ble_eq_true rfl) rfl (eb_sS (eb_sS (eb_sS (eb_sS eb_s0)))) ?_
                      refine V_iinc eX10_lookOf_73 rfl rfl (eb_sS (eb_sS (eb_sS (eb_sS (eb_sS eb_s0))))) ?_
                      refine V_goto (tgt := 29) eX10_lookOf_76 rfl ?_
                      exact nx
                    · exact absurd c_62 w2
            · have f1 : su_F (bmT T) sees (1 + i) = 0 := by unfold su_F; rw [if_neg y]
              have f2 : su_E (bmT T) sees e (1 + i) = 0 := by unfold su_E; rw [if_neg (fun z => y z.1)]
              rw [f2] at nx
              refine V_iload eX10_lookOf_29 rfl ?_
              refine V_sipush eX10_lookOf_31 (by decide) ?_
              refine V_icmp_gt (tgt := 79) eX10_lookOf_34 rfl (by omega) (fun c_34 => ?_) (fun c_34 => ?_)
              · exact absurd c_34 (by omega)
              · refine V_iload eX10_lookOf_37 rfl ?_
                refine V_aload_n eX10_lookOf_39 rfl rfl ?_
                refine V_getf eX10_lookOf_40 H_this rfl ?_
                refine V_iload eX10_lookOf_43 rfl ?_
                refine V_zald eX10_lookOf_45 H_this_isBy (by omega) ?_
                rw [Int.toNat_natCast, a2, f1]
                refine V_if_eq (tgt := 69) eX10_lookOf_46 rfl (by omega) (fun c_46 => ?_) (fun c_46 => ?_)
                · refine V_iconst eX10_lookOf_69 ?_
                  refine V_iadd eX10_lookOf_70 ?_
                  refine V_istore eX10_lookOf_71 (Nat.le_of_ble_eq_true rfl) rfl (eb_sS (eb_sS (eb_sS (eb_sS eb_s0)))) ?_
                  refine V_iinc eX10_lookOf_73 rfl rfl (eb_sS (eb_sS (eb_sS (eb_sS (eb_sS eb_s0))))) ?_
                  refine V_goto (tgt := 29) eX10_lookOf_76 rfl ?_
                  exact nx
                · exact absurd rfl c_46
        refine V_iload_n eX10_lookOf_13 rfl rfl ?_
        refine V_aload_n eX10_lookOf_14 rfl rfl ?_
        refine V_getf eX10_lookOf_15 H_this rfl ?_
        refine V_iconst eX10_lookOf_18 ?_
        refine V_iald eX10_lookOf_19 H_this_st (by omega) ?_
        rw [e0]
        refine V_icmp_gt (tgt := 136) eX10_lookOf_20 rfl (by omega) (fun c_20 => ?_) (fun c_20 => ?_)
        · exact absurd c_20 (by omega)
        · refine V_iconst eX10_lookOf_23 ?_
          refine V_istore eX10_lookOf_24 (Nat.le_of_ble_eq_true rfl) rfl (eb_sS (eb_sS (eb_sS (eb_sS eb_s0)))) ?_
          refine V_iconst eX10_lookOf_26 ?_
          refine V_istore eX10_lookOf_27 (Nat.le_of_ble_eq_true rfl) rfl (eb_sS (eb_sS (eb_sS (eb_sS (eb_sS eb_s0))))) ?_
          exact lm 200 0 (by omega)
    refine V_iconst eX10_lookOf_4 ?_
    refine V_istore_n eX10_lookOf_5 rfl (Nat.le_of_ble_eq_true rfl) rfl (eb_sS eb_s0) ?_
    refine V_aload_n eX10_lookOf_6 rfl rfl ?_
    refine V_getf eX10_lookOf_7 H_this rfl ?_
    rw [c24]
    refine V_istore_n eX10_lookOf_10 rfl (Nat.le_of_ble_eq_true rfl) rfl (eb_sS (eb_sS eb_s0)) ?_
    refine V_iconst eX10_lookOf_11 ?_
    refine V_istore_n eX10_lookOf_12 rfl (Nat.le_of_ble_eq_true rfl) rfl (eb_sS (eb_sS (eb_sS eb_s0))) ?_
    exact loop (T.1.length + 1) 0 _ _ (by omega)
  refine V_aload_n eX10_lookOf_0 rfl rfl ?_
  refine V_cvg eX10_lookOf_1 (TL) H_this rfl rfl (Nat.le_of_ble_eq_true rfl) ⟨rfl, rfl⟩ ⟨Nat.zero_le _, Nat.zero_le _⟩ (fun h1 ⟨⟨⟨c2, bb, ib, a1, a2, a3, a4, a5⟩, a6⟩, a7⟩ => ?_)
  show eb_V _ _ 4 _ [] _ _ _
  exact main _ h1 c2 bb ib ⟨⟨⟨c2, bb, ib, a1, a2.1, a3, a4⟩, a6⟩, a7⟩ a1 a2 a3 a4 a5 ((a7 68 (by omega) (by omega) (by omega) (by omega)).trans H_this_st)
end M8
