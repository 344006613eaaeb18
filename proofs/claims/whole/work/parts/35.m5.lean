section M5
variable {n : Nat} {h : eb_H} {c : Nat → Int} {sf : Nat → Int} {T : TX}
theorem c_X10_with {wd wi : Nat → Int} {k : Nat} (H_this : h 67 = mo c) (H_this_st : h 68 = eb_ia 525 sf) (hm : ms sf T) (HO : TX_ok T) (H_wd : h 73 = eb_ia 40 wd) (HM : mlany h) (H_wi : h 79 = eb_ia 41 wi) (hk : 1 ≤ k ∧ k ≤ 40) : eb_T mX10_with [.ref 67, .int (eb_I (k : Int))] n h (eb_G (some (.int (eb_I (if T.1.length < k then -1 else wl_R (lt_c (txq T)) k T.1.length)))) n (fun h' => (mlany h' ∧ (∃ wd', h' 73 = eb_ia 40 wd') ∧ ∃ f, h' 79 = eb_ia 41 f) ∧ ∀ k, (k < 73 ∨ 77 < k) → k ≠ 79 → h' k = h k)) := by
  refine eb_T.of (by decide +kernel) (Nat.le_of_ble_eq_true rfl) ?_
  show eb_V _ _ 0 [.ref 67, .int (eb_I (k : Int)), eb_no, eb_no, eb_no, eb_no, eb_no, eb_no] [] (n, 0, 0) h _
  have hN : T.1.length ≤ 40 := HO.1.1
  have e0 : sf (0 : Int).toNat = (T.1.length : Int) := hm.1
  have TL := c_X10_lay (n := n) H_this H_this_st hm HO H_wd HM
  have hco : dp_cok (lt_c (txq T)) T.1.length := lt_cok (tx_lok HO)
  have mlx : ∀ h1, ml h1 (txq T) → ∃ co, h1 75 = eb_ia 1681 co ∧ ∀ i j, i < j → j ≤ T.1.length → co (41 * i + j) = lt_c (txq T) i j := fun h1 H => by
    obtain ⟨up, co, to, ow, U, C, O, W, q1, q2, q3, q4⟩ := H
    exact ⟨co, C, q2⟩
  generalize lt_c (txq T) = cc at hco mlx ⊢
  generalize hNN : T.1.length = N at *
  have wr : ∀ t e, t ≤ 40 → e ≤ N → wl_R cc t e = 2000000000 ∨ (0 ≤ wl_R cc t e ∧ wl_R cc t e ≤ 547603960) := fun t e ht he => by
    obtain ⟨f1, f2⟩ := wl_facts hco t ht e he
    by_cases q : e < t ∨ (t = 0 ∧ 0 < e)
    · exact Or.inl (f1 q)
    · have := f2 (by omega)
      omega
  have main : ∀ (G : eb_H → Prop) (h1 : eb_H) (co w0 : Nat → Int), h1 67 = mo c → h1 75 = eb_ia 1681 co → (∀ i j, i < j → j ≤ N → co (41 * i + j) = cc i j) → h1 79 = eb_ia 41 w0 → (∀ h2 f, h2 79 = eb_ia 41 f → (∀ k, k ≠ 79 → h2 k = h1 k) → G h2) → eb_V mX10_with (fun _ _ _ => True) 28 [.ref 67, .int (eb_I (k : Int)), .int (eb_I (N : Int)), .int (eb_I 0), eb_no, eb_no, eb_no, eb_no] [] (n, 0, 0) h1 (eb_R mX10_with (eb_G (some (.int (eb_I (if N < k then -1 else wl_R cc k N)))) n G)) := by
    intro G h1 co w0 H_this1 H_costs1 hcc H_w1 hG
    have fin : ∀ (h2 : eb_H) (f : Nat → Int) (x3 x4 x5 x6 x7 : Value), h2 79 = eb_ia 41 f → (∀ k, k ≠ 79 → h2 k = h1 k) → (∀ x, x ≤ N → f x = wl_R cc k x) → eb_V mX10_with (fun _ _ _ => True) 167 [.ref 67, .int (eb_I (k : Int)), .int (eb_I (N : Int)), x3, x4, x5, x6, x7] [] (n, 0, 0) h2 (eb_R mX10_with (eb_G (some (.int (eb_I (if N < k then -1 else wl_R cc k N)))) n G)) := by
      intro h2 f x3 x4 x5 x6 x7 H_this_with hfr hf
      have H_this : h2 67 = mo c := (hfr 67 (by omega)).trans H_this1
      obtain ⟨f1, f2⟩ := wl_facts hco k hk.2 N (Nat.le_refl _)
      have eN : f ((N : Int)).toNat = wl_R cc k N := hf N (Nat.le_refl _)
      by_cases q : N < k
      · have := f1 (Or.inl q)
        rw [if_pos q]
        refine V_aload_n eX10_with_167 rfl rfl ?_
        refine V_getf eX10_with_168 H_this rfl ?_
        refine V_iload_n eX10_with_171 rfl rfl ?_
        refine V_iald eX10_with_172 H_this_with (by omega) ?_
        rw [eN]
        refine V_ldc (a := 2000000000) eX10_with_173 wd_870 (by decide) ?_
        refine V_icmp_ne (tgt := 182) eX10_with_175 rfl (by omega) (fun c_175 => ?_) (fun c_175 => ?_)
        · exact absurd this c_175
        · refine V_iconst eX10_with_178 ?_
          refine V_goto (tgt := 188) eX10_with_179 rfl ?_
          exact V_iret eX10_with_188 ⟨Nat.zero_le _, Nat.zero_le _⟩ rfl (rfl) (⟨rfl, rfl, hG h2 f H_this_with hfr⟩)
      · have := f2 (by omega)
        rw [if_neg q]
        refine V_aload_n eX10_with_167 rfl rfl ?_
        refine V_getf eX10_with_168 H_this rfl ?_
        refine V_iload_n eX10_with_171 rfl rfl ?_
        refine V_iald eX10_with_172 H_this_with (by omega) ?_
        rw [eN]
        refine V_ldc (a := 2000000000) eX10_with_173 wd_870 (by decide) ?_
        refine V_icmp_ne (tgt := 182) eX10_with_175 rfl (by omega) (fun c_175 => ?_) (fun c_175 => ?_)
        · refine V_aload_n eX10_with_182 rfl rfl ?_
          refine V_getf eX10_with_183 H_this rfl ?_
          refine V_iload_n eX10_with_186 rfl rfl ?_
          refine V_iald eX10_with_187 H_this_with (by omega) ?_
          rw [eN]
          exact V_iret eX10_with_188 ⟨Nat.zero_le _, Nat.zero_le _⟩ rfl (rfl) (⟨rfl, rfl, hG h2 f H_this_with hfr⟩)
        · exact absurd c_175 (by omega)
    have lB : ∀ (d t : Nat) (h2 : eb_H) (f : Nat → Int) (x4 x5 x6 x7 : Value), t + d = k → h2 79 = eb_ia 41 f → (∀ k, k ≠ 79 → h2 k = h1 k) → (∀ x, x ≤ N → f x = wl_R cc t x) → eb_V mX10_with (fun _ _ _ => True) 57 [.ref 67, .int (eb_I (k : Int)), .int (eb_I (N : Int)), .int (eb_I (t : Int)), x4, x5, x6, x7] [] (n, 0, 0) h2 (eb_R mX10_with (eb_G (some (.int (eb_I (if N < k then -1 else wl_R cc k N)))) n G)) := by
      intro d
      induction d with
      | zero =>
        intro t h2 f x4 x5 x6 x7 ht H_w hfr hf
        have : t = k := by omega
        subst this
        refine V_iload_n eX10_with_57 rfl rfl ?_
        refine V_iload_n eX10_with_58 rfl rfl ?_
        refine V_icmp_ge (tgt := 167) eX10_with_59 rfl (by omega) (fun c_59 => ?_) (fun c_59 => ?_)
        · exact fin h2 f _ _ _ _ _ H_w hfr hf
        · exact absurd (by omega) c_59
      | succ d ih =>
        intro t h2 f x4 x5 x6 x7 ht H_w hfr hf
        have lC : ∀ (m : Nat) (h3 : eb_H) (f3 : Nat → Int) (x5 x6 x7 : Value), m ≤ N + 1 → h3 79 = eb_ia 41 f3 → (∀ k, k ≠ 79 → h3 k = h1 k) → (∀ x, x < m → f3 x = wl_R cc t x) → (∀ x, m ≤ x → x ≤ N → f3 x = wl_R cc (t + 1) x) → eb_V mX10_with (fun _ _ _ => True) 65 [.ref 67, .int (eb_I (k : Int)), .int (eb_I (N : Int)), .int (eb_I (t : Int)), .int (eb_I ((m : Int) - 1)), x5, x6, x7] [] (n, 0, 0) h3 (eb_R mX10_with (eb_G (some (.int (eb_I (if N < k then -1 else wl_R cc k N)))) n G)) := by
          intro m
          induction m with
          | zero =>
            intro h3 f3 x5 x6 x7 hm1 H_w3 hfr3 hlo hhi
            refine V_iload eX10_with_65 rfl ?_
            refine V_if_lt (tgt := 161) eX10_with_67 rfl (by omega) (fun c_67 => ?_) (fun c_67 => ?_)
            · refine V_iinc eX10_with_161 rfl rfl (eb_sS (eb_sS (eb_sS eb_s0))) ?_
              refine V_goto (tgt := 57) eX10_with_164 rfl ?_
              exact ih (t + 1) h3 f3 _ _ _ _ (by omega) H_w3 hfr3 (fun x hx => hhi x (by omega) hx)
            · exact absurd (by omega) c_67
          | succ j ihm =>
            intro h3 f3 x5 x6 x7 hm1 H_w3 hfr3 hlo hhi
            have H_this_with := H_w3
            have H_this : h3 67 = mo c := (hfr3 67 (by omega)).trans H_this1
            have H_this_costs : h3 75 = eb_ia 1681 co := (hfr3 75 (by omega)).trans H_costs1
            obtain ⟨g, hg⟩ : ∃ g : Nat → Int, g = fun i => if wl_R cc t i = 2000000000 then 2000000000 else wl_R cc t i + cc i j := ⟨_, rfl⟩
            have hgm : wl_R cc (t + 1) j = dp_m g j := by rw [hg]; rfl
            have hgr : ∀ i, i < j → 0 ≤ g i ∧ g i ≤ 2000000000 := fun i hi => by
              have := wr t i (by omega) (by omega)
              have := hco i j hi (by omega)
              have e : g i = if wl_R cc t i = 2000000000 then 2000000000 else wl_R cc t i + cc i j := by rw [hg]
              rw [e]
              split <;> omega
            have hmr : ∀ i, i ≤ j → 0 ≤ dp_m g i := fun i hi => by
              rcases Int.lt_or_le (dp_m g i) 2000000000 with q | q
              · obtain ⟨a, a1, a2⟩ := dp_m_att i q
                have := hgr a (by omega)
                omega
              · omega
            have ej : (((j + 1 : Nat) : Int) - 1) = (j : Int) := by omega
            rw [ej]
            have lD : ∀ (d5 i : Nat) (x7 : Value), i + d5 = j → eb_V mX10_with (fun _ _ _ => True) 77 [.ref 67, .int (eb_I (k : Int)), .int (eb_I (N : Int)), .int (eb_I (t : Int)), .int (eb_I (j : Int)), .int (eb_I (dp_m g i)), .int (eb_I (i : Int)), x7] [] (n, 0, 0) h3 (eb_R mX10_with (eb_G (some (.int (eb_I (if N < k then -1 else wl_R cc k N)))) n G)) := by
              intro d5
              induction d5 with
              | zero =>
                intro i x7 hi
                have : i = j := by omega
                subst this
                refine V_iload eX10_with_77 rfl ?_
                refine V_iload eX10_with_79 rfl ?_
                refine V_icmp_ge (tgt := 146) eX10_with_81 rfl (by omega) (fun c_81 => ?_) (fun c_81 => ?_)
                · refine V_aload_n eX10_with_146 rfl rfl ?_
                  refine V_getf eX10_with_147 H_this rfl ?_
                  refine V_iload eX10_with_150 rfl ?_
                  refine V_iload eX10_with_152 rfl ?_
                  refine V_iast eX10_with_154 H_this_with (by omega) ?_
                  refine V_iinc eX10_with_155 rfl rfl (eb_sS (eb_sS (eb_sS (eb_sS eb_s0)))) ?_
                  refine V_goto (tgt := 65) eX10_with_158 rfl ?_
                  refine ihm _ _ _ _ _ (by omega) eb_up_s (fun k hk => eb_up_n hk (hfr3 k hk)) (fun x hx => ?_) (fun x hx1 hx2 => ?_)
                  · unfold eb_set
                    rw [if_neg (by omega)]
                    exact hlo x (by omega)
                  · unfold eb_set
                    by_cases y : x = i
                    · rw [if_pos (by omega), y, hgm]
                    · rw [if_neg (by omega)]
                      exact hhi x (by omega) hx2
                · exact absurd (by omega) c_81
              | succ d5 ihd =>
                intro i x7 hi
                have ix : ((41 : Int) * (i : Int) + (j : Int)).toNat = 41 * i + j := by omega
                have q1 := hcc i j (by omega) (by omega)
                have q2 := hlo i (by omega)
                have r1 := wr t i (by omega) (by omega)
                have r2 := hco i j (by omega) (by omega)
                have r3 := hmr i (by omega)
                have r4 := dp_m_top g i
                have em : dp_m g (i + 1) = if g i < dp_m g i then g i else dp_m g i := rfl
                have nxt := fun x => ihd (i + 1) x (by omega)
                have tl : ∀ (v : Int), v = g i → eb_V mX10_with (fun _ _ _ => True) 122 [.ref 67, .int (eb_I (k : Int)), .int (eb_I (N : Int)), .int (eb_I (t : Int)), .int (eb_I (j : Int)), .int (eb_I (dp_m g i)), .int (eb_I (i : Int)), x7] [.int (eb_I v)] (n, 0, 0) h3 (eb_R mX10_with (eb_G (some (.int (eb_I (if N < k then -1 else wl_R cc k N)))) n G)) := by
                  intro v hv
                  subst hv
                  have r5 := hgr i (by omega)
                  by_cases y : g i < dp_m g i
                  · rw [em, if_pos y] at nxt
                    refine V_istore eX10_with_122 (Nat.le_of_ble_eq_true rfl) rfl (eb_sS (eb_sS (eb_sS (eb_sS (eb_sS (eb_sS (eb_sS eb_s0))))))) ?_
                    refine V_iload eX10_with_124 rfl ?_
                    refine V_iload eX10_with_126 rfl ?_
                    refine V_icmp_ge (tgt := 136) eX10_with_128 rfl (by omega) (fun c_128 => ?_) (fun c_128 => ?_)
                    · exact absurd y (by omega)
                    · refine V_iload eX10_with_131 rfl ?_
                      refine V_goto (tgt := 138) eX10_with_133 rfl ?_
                      refine V_istore eX10_with_138 (Nat.le_of_ble_eq_true rfl) rfl (eb_sS (eb_sS (eb_sS (eb_sS (eb_sS eb_s0))))) ?_
                      refine V_iinc eX10_with_140 rfl rfl (eb_sS (eb_sS (eb_sS (eb_sS (eb_sS (eb_sS eb_s0)))))) ?_
                      refine V_goto (tgt := 77) eX10_with_143 rfl ?_
                      exact nxt _
                  · rw [em, if_neg y] at nxt
                    refine V_istore eX10_with_122 (Nat.le_of_ble_eq_true rfl) rfl (eb_sS (eb_sS (eb_sS (eb_sS (eb_sS (eb_sS (eb_sS eb_s0))))))) ?_
                    refine V_iload eX10_with_124 rfl ?_
                    refine V_iload eX10_with_126 rfl ?_
                    refine V_icmp_ge (tgt := 136) eX10_with_128 rfl (by omega) (fun c_128 => ?_) (fun c_128 => ?_)
                    · refine V_iload eX10_with_136 rfl ?_
                      refine V_istore eX10_with_138 (Nat.le_of_ble_eq_true rfl) rfl (eb_sS (eb_sS (eb_sS (eb_sS (eb_sS eb_s0))))) ?_
                      refine V_iinc eX10_with_140 rfl rfl (eb_sS (eb_sS (eb_sS (eb_sS (eb_sS (eb_sS eb_s0)))))) ?_
                      refine V_goto (tgt := 77) eX10_with_143 rfl ?_
                      exact nxt _
                    · exact absurd c_128 (by omega)
                have gi : g i = if wl_R cc t i = 2000000000 then 2000000000 else wl_R cc t i + cc i j := by rw [hg]
                by_cases y : wl_R cc t i = 2000000000
                · rw [if_pos y] at gi
                  refine V_iload eX10_with_77 rfl ?_
                  refine V_iload eX10_with_79 rfl ?_
                  refine V_icmp_ge (tgt := 146) eX10_with_81 rfl (by omega) (fun c_81 => ?_) (fun c_81 => ?_)
                  · exact absurd c_81 (by omega)
                  · refine V_aload_n eX10_with_84 rfl rfl ?_
                    refine V_getf eX10_with_85 H_this rfl ?_
                    refine V_iload eX10_with_88 rfl ?_
                    refine V_iald eX10_with_90 H_this_with (by omega) ?_
                    rw [Int.toNat_natCast, q2]
                    refine V_ldc (a := 2000000000) eX10_with_91 wd_870 (by decide) ?_
                    refine V_icmp_ne (tgt := 101) eX10_with_93 rfl (by omega) (fun c_93 => ?_) (fun c_93 => ?_)
                    · exact absurd y c_93
                    · refine V_ldc (a := 2000000000) eX10_with_96 wd_870 (by decide) ?_
                      refine V_goto (tgt := 122) eX10_with_98 rfl ?_
                      exact tl _ gi.symm
                · rw [if_neg y] at gi
                  refine V_iload eX10_with_77 rfl ?_
                  refine V_iload eX10_with_79 rfl ?_
                  refine V_icmp_ge (tgt := 146) eX10_with_81 rfl (by omega) (fun c_81 => ?_) (fun c_81 => ?_)
                  · exact absurd c_81 (by omega)
                  · refine V_aload_n eX10_with_84 rfl rfl ?_
                    refine V_getf eX10_with_85 H_this rfl ?_
                    refine V_iload eX10_with_88 rfl ?_
                    refine V_iald eX10_with_90 H_this_with (by omega) ?_
                    rw [Int.toNat_natCast, q2]
                    refine V_ldc (a := 2000000000) eX10_with_91 wd_870 (by decide) ?_
                    refine V_icmp_ne (tgt := 101) eX10_with_93 rfl (by omega) (fun c_93 => ?_) (fun c_93 => ?_)
                    · refine V_aload_n eX10_with_101 rfl rfl ?_
                      refine V_getf eX10_with_102 H_this rfl ?_
                      refine V_iload eX10_with_105 rfl ?_
                      refine V_iald eX10_with_107 H_this_with (by omega) ?_
                      rw [Int.toNat_natCast, q2]
                      refine V_aload_n eX10_with_108 rfl rfl ?_
                      refine V_getf eX10_with_109 H_this rfl ?_
                      refine V_bipush eX10_with_112 (by decide) ?_
                      refine V_iload eX10_with_114 rfl ?_
                      refine V_imul eX10_with_116 ?_
                      refine V_iload eX10_with_117 rfl ?_
                      refine V_iadd eX10_with_119 ?_
                      refine V_iald eX10_with_120 H_this_costs (by omega) ?_
                      rw [ix, q1]
                      refine V_iadd eX10_with_121 ?_
                      exact tl _ gi.symm
                    · exact absurd c_93 y
            refine V_iload eX10_with_65 rfl ?_
            refine V_if_lt (tgt := 161) eX10_with_67 rfl (by omega) (fun c_67 => ?_) (fun c_67 => ?_)
            · exact absurd c_67 (by omega)
            · refine V_ldc (a := 2000000000) eX10_with_70 wd_870 (by decide) ?_
              refine V_istore eX10_with_72 (Nat.le_of_ble_eq_true rfl) rfl (eb_sS (eb_sS (eb_sS (eb_sS (eb_sS eb_s0))))) ?_
              refine V_iconst eX10_with_74 ?_
              refine V_istore eX10_with_75 (Nat.le_of_ble_eq_true rfl) rfl (eb_sS (eb_sS (eb_sS (eb_sS (eb_sS (eb_sS eb_s0)))))) ?_
              exact lD j 0 _ (by omega)
        refine V_iload_n eX10_with_57 rfl rfl ?_
        refine V_iload_n eX10_with_58 rfl rfl ?_
        refine V_icmp_ge (tgt := 167) eX10_with_59 rfl (by omega) (fun c_59 => ?_) (fun c_59 => ?_)
        · exact absurd c_59 (by omega)
        · refine V_iload_n eX10_with_62 rfl rfl ?_
          refine V_istore eX10_with_63 (Nat.le_of_ble_eq_true rfl) rfl (eb_sS (eb_sS (eb_sS (eb_sS eb_s0)))) ?_
          have := lC (N + 1) h2 f x5 x6 x7 (Nat.le_refl _) H_w hfr (fun x hx => hf x (by omega)) (fun x a b => absurd a (by omega))
          rw [show (((N + 1 : Nat) : Int) - 1) = (N : Int) by omega] at this
          exact this
    have lA : ∀ (d e : Nat) (h2 : eb_H) (f : Nat → Int), e + d = N + 1 → h2 79 = eb_ia 41 f → (∀ k, k ≠ 79 → h2 k = h1 k) → (∀ x, x < e → f x = wl_R cc 0 x) → eb_V mX10_with (fun _ _ _ => True) 28 [.ref 67, .int (eb_I (k : Int)), .int (eb_I (N : Int)), .int (eb_I (e : Int)), eb_no, eb_no, eb_no, eb_no] [] (n, 0, 0) h2 (eb_R mX10_with (eb_G (some (.int (eb_I (if N < k then -1 else wl_R cc k N)))) n G)) := by
      intro d
      induction d with
      | zero =>
        intro e h2 f he H_w hfr hf
        refine V_iload_n eX10_with_28 rfl rfl ?_
        refine V_iload_n eX10_with_29 rfl rfl ?_
        refine V_icmp_gt (tgt := 55) eX10_with_30 rfl (by omega) (fun c_30 => ?_) (fun c_30 => ?_)
        · refine V_iconst eX10_with_55 ?_
          refine V_istore_n eX10_with_56 rfl (Nat.le_of_ble_eq_true rfl) rfl (eb_sS (eb_sS (eb_sS eb_s0))) ?_
          exact lB k 0 h2 f _ _ _ _ (by omega) H_w hfr (fun x hx => hf x (by omega))
        · exact absurd (by omega) c_30
      | succ d ih =>
        intro e h2 f he H_this_with hfr hf
        have H_this : h2 67 = mo c := (hfr 67 (by omega)).trans H_this1
        have st : ∀ v : Int, v = wl_R cc 0 e → ∀ x, x < e + 1 → eb_set f ((e : Int)).toNat v x = wl_R cc 0 x := fun v hv x hx => by
          unfold eb_set
          by_cases y : x = e
          · rw [if_pos (by omega), y, hv]
          · rw [if_neg (by omega)]
            exact hf x (by omega)
        refine V_iload_n eX10_with_28 rfl rfl ?_
        refine V_iload_n eX10_with_29 rfl rfl ?_
        refine V_icmp_gt (tgt := 55) eX10_with_30 rfl (by omega) (fun c_30 => ?_) (fun c_30 => ?_)
        · exact absurd c_30 (by omega)
        · refine V_aload_n eX10_with_33 rfl rfl ?_
          refine V_getf eX10_with_34 H_this rfl ?_
          refine V_iload_n eX10_with_37 rfl rfl ?_
          refine V_iload_n eX10_with_38 rfl rfl ?_
          refine V_if_ne (tgt := 46) eX10_with_39 rfl (by omega) (fun c_39 => ?_) (fun c_39 => ?_)
          · refine V_ldc (a := 2000000000) eX10_with_46 wd_870 (by decide) ?_
            refine V_iast eX10_with_48 H_this_with (by omega) ?_
            refine V_iinc eX10_with_49 rfl rfl (eb_sS (eb_sS (eb_sS eb_s0))) ?_
            refine V_goto (tgt := 28) eX10_with_52 rfl ?_
            exact ih (e + 1) _ _ (by omega) eb_up_s (fun k hk => eb_up_n hk (hfr k hk)) (st _ (by unfold wl_R; split <;> omega))
          · refine V_iconst eX10_with_42 ?_
            refine V_goto (tgt := 48) eX10_with_43 rfl ?_
            refine V_iast eX10_with_48 H_this_with (by omega) ?_
            refine V_iinc eX10_with_49 rfl rfl (eb_sS (eb_sS (eb_sS eb_s0))) ?_
            refine V_goto (tgt := 28) eX10_with_52 rfl ?_
            exact ih (e + 1) _ _ (by omega) eb_up_s (fun k hk => eb_up_n hk (hfr k hk)) (st _ (by unfold wl_R; split <;> omega))
    exact lA (N + 1) 0 h1 w0 (by omega) H_w1 (fun _ _ => rfl) (fun x hx => absurd hx (by omega))
  refine V_iload_n eX10_with_0 rfl rfl ?_
  refine V_i2lI eX10_with_1 (by omega) ?_
  refine V_lconst (b := 1) eX10_with_2 (by decide) ?_
  refine V_ldc2 (a := 40) eX10_with_3 wd_1004 (by decide) ?_
  refine V_csi eX10_with_6 (c_X10_in (by omega)) rfl rfl (Nat.le_of_ble_eq_true rfl) ⟨rfl, rfl⟩ ⟨Nat.zero_le _, Nat.zero_le _⟩ ?_
  rw [if_pos (show (1 : Int) ≤ (k : Int) ∧ (k : Int) ≤ 40 by omega)]
  refine V_if_ne (tgt := 15) eX10_with_9 rfl (by omega) (fun c_9 => ?_) (fun c_9 => ?_)
  · refine V_aload_n eX10_with_15 rfl rfl ?_
    refine V_cvg eX10_with_16 (TL) H_this rfl rfl (Nat.le_of_ble_eq_true rfl) ⟨rfl, rfl⟩ ⟨Nat.zero_le _, Nat.zero_le _⟩ (fun h1 ⟨⟨HM1, wd1, HW1, hwd1⟩, hfr1⟩ => ?_)
    show eb_V _ _ 19 _ [] _ _ _
    have H_this : h1 67 = mo c := (hfr1 67 (by omega)).trans H_this
    have H_this_st : h1 68 = _ := (hfr1 68 (by omega)).trans H_this_st
    obtain ⟨co, C1, C2⟩ := mlx h1 HM1
    refine V_aload_n eX10_with_19 rfl rfl ?_
    refine V_getf eX10_with_20 H_this rfl ?_
    refine V_iconst eX10_with_23 ?_
    refine V_iald eX10_with_24 H_this_st (by omega) ?_
    rw [e0]
    refine V_istore_n eX10_with_25 rfl (Nat.le_of_ble_eq_true rfl) rfl (eb_sS (eb_sS eb_s0)) ?_
    refine V_iconst eX10_with_26 ?_
    refine V_istore_n eX10_with_27 rfl (Nat.le_of_ble_eq_true rfl) rfl (eb_sS (eb_sS (eb_sS eb_s0))) ?_
    exact main _ h1 co wi H_this C1 C2 ((hfr1 79 (by omega)).trans H_wi) (fun h2 f a b => ⟨⟨HM1.any.kept (fun k x y => b k (by omega)), ⟨wd1, (b 73 (by omega)).trans HW1⟩, f, a⟩, fun k x y => (b k y).trans (hfr1 k x)⟩)
  · exact absurd c_9 (by decide)
end M5
