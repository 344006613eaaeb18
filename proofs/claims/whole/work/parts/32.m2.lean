/-! the reference lays a text -/
section M2
variable {n : Nat} {h : eb_H} {c : Nat → Int} {sf : Nat → Int} {T : TX}
theorem c_X10_measureWords {wd : Nat → Int} (H_this : h 67 = mo c) (H_this_st : h 68 = eb_ia 525 sf) (hm : ms sf T) (HO : TX_ok T) (H_wd : h 73 = eb_ia 40 wd) : eb_T mX10_measureWords [.ref 67] n h (eb_G none n (fun h' => (∃ wd', h' 73 = eb_ia 40 wd' ∧ ∀ w, w < T.1.length → wd' w = tx_wf T.1 w) ∧ ∀ k, k ≠ 73 → h' k = h k)) := by
  refine eb_T.of (by decide +kernel) (Nat.le_of_ble_eq_true rfl) ?_
  show eb_V _ _ 0 [.ref 67, eb_no] [] (n, 0, 0) h _
  have hN : T.1.length ≤ 40 := HO.1.1
  have e0 : sf (0 : Int).toNat = (T.1.length : Int) := hm.1
  generalize hG : (fun h' : eb_H => (∃ wd', h' 73 = eb_ia 40 wd' ∧ ∀ w, w < T.1.length → wd' w = tx_wf T.1 w) ∧ ∀ k, k ≠ 73 → h' k = h k) = G
  have loop : ∀ (d i : Nat) (h1 : eb_H) (wd1 : Nat → Int), i + d = T.1.length → h1 73 = eb_ia 40 wd1 → (∀ k, k ≠ 73 → h1 k = h k) → (∀ w, w < i → wd1 w = tx_wf T.1 w) → eb_V mX10_measureWords (fun _ _ _ => True) 2 [.ref 67, .int (eb_I (i : Int))] [] (n, 0, 0) h1 (eb_R mX10_measureWords (eb_G none n G)) := by
    intro d
    induction d with
    | zero =>
      intro i h1 wd1 hi H_this_wide hfr g
      have H_this : h1 67 = mo c := (hfr 67 (by omega)).trans H_this
      have H_this_st : h1 68 = _ := (hfr 68 (by omega)).trans H_this_st
      refine V_iload_n eX10_measureWords_2 rfl rfl ?_
      refine V_aload_n eX10_measureWords_3 rfl rfl ?_
      refine V_getf eX10_measureWords_4 H_this rfl ?_
      refine V_iconst eX10_measureWords_7 ?_
      refine V_iald eX10_measureWords_8 H_this_st (by omega) ?_
      rw [e0]
      refine V_icmp_ge (tgt := 29) eX10_measureWords_9 rfl (by omega) (fun c_9 => ?_) (fun c_9 => ?_)
      · exact V_vret eX10_measureWords_29 ⟨Nat.zero_le _, Nat.zero_le _⟩ rfl (⟨rfl, rfl, by rw [← hG]; exact ⟨⟨wd1, H_this_wide, fun w hw => g w (by omega)⟩, hfr⟩⟩)
      · exact absurd (by omega) c_9
    | succ d ih =>
      intro i h1 wd1 hi H_this_wide hfr g
      have H_this : h1 67 = mo c := (hfr 67 (by omega)).trans H_this
      have H_this_st : h1 68 = _ := (hfr 68 (by omega)).trans H_this_st
      have hil : i < T.1.length := by omega
      refine V_iload_n eX10_measureWords_2 rfl rfl ?_
      refine V_aload_n eX10_measureWords_3 rfl rfl ?_
      refine V_getf eX10_measureWords_4 H_this rfl ?_
      refine V_iconst eX10_measureWords_7 ?_
      refine V_iald eX10_measureWords_8 H_this_st (by omega) ?_
      rw [e0]
      refine V_icmp_ge (tgt := 29) eX10_measureWords_9 rfl (by omega) (fun c_9 => ?_) (fun c_9 => ?_)
      · exact absurd c_9 (by omega)
      · refine V_aload_n eX10_measureWords_12 rfl rfl ?_
        refine V_getf eX10_measureWords_13 H_this rfl ?_
        refine V_iload_n eX10_measureWords_16 rfl rfl ?_
        refine V_aload_n eX10_measureWords_17 rfl rfl ?_
        refine V_iload_n eX10_measureWords_18 rfl rfl ?_
        refine V_cvi eX10_measureWords_19 (c_X10_wordWidth H_this H_this_st hm HO hil) H_this rfl rfl (Nat.le_of_ble_eq_true rfl) ⟨rfl, rfl⟩ ⟨Nat.zero_le _, Nat.zero_le _⟩ ?_
        refine V_iast eX10_measureWords_22 H_this_wide (by omega) ?_
        refine V_iinc eX10_measureWords_23 rfl rfl (eb_sS eb_s0) ?_
        refine V_goto (tgt := 2) eX10_measureWords_26 rfl ?_
        rw [Int.toNat_natCast]
        refine ih (i + 1) _ _ (by omega) eb_up_s (fun k hk => by rw [eb_up, if_neg hk]; exact hfr k hk) (fun w hw => ?_)
        unfold eb_set
        by_cases z : w = i
        · rw [if_pos z, z, tx_wf_at hil]
        · rw [if_neg z]
          exact g w (by omega)
  refine V_iconst eX10_measureWords_0 ?_
  refine V_istore_n eX10_measureWords_1 rfl (Nat.le_of_ble_eq_true rfl) rfl (eb_sS eb_s0) ?_
  exact loop T.1.length 0 h wd (by omega) H_wd (fun _ _ => rfl) (fun w hw => absurd hw (by omega))
/-- the places, costs, totals, owners, as the reference lays them by a measure -/
def ml (h : eb_H) (q : lt_Q) : Prop := ∃ up co to ow : Nat → Int, h 74 = eb_ia 41 up ∧ h 75 = eb_ia 1681 co ∧ h 76 = eb_ia 41 to ∧ h 77 = eb_ia 41 ow ∧ (∀ k, k ≤ q.1 → up k = lt_pl q.2.1 k) ∧ (∀ i j, i < j → j ≤ q.1 → co (41 * i + j) = lt_c q i j) ∧ (∀ e, e ≤ q.1 → to e = dp_t (lt_c q) e) ∧ (∀ e, e ≤ q.1 → ow e = dp_o (lt_c q) e)
def mlany (h : eb_H) : Prop := ∃ up co to ow : Nat → Int, h 74 = eb_ia 41 up ∧ h 75 = eb_ia 1681 co ∧ h 76 = eb_ia 41 to ∧ h 77 = eb_ia 41 ow
theorem ml.any {h : eb_H} {q : lt_Q} (H : ml h q) : mlany h := by
  obtain ⟨up, co, to, ow, a, b, c, d, -⟩ := H
  exact ⟨up, co, to, ow, a, b, c, d⟩
theorem ml.kept {h h' : eb_H} {q : lt_Q} (H : ml h q) (k : ag h h' 74 77) : ml h' q := by
  obtain ⟨up, co, to, ow, a, b, c, d, e⟩ := H
  exact ⟨up, co, to, ow, (k _ (by omega) (by omega)).trans a, (k _ (by omega) (by omega)).trans b, (k _ (by omega) (by omega)).trans c, (k _ (by omega) (by omega)).trans d, e⟩
theorem mlany.kept {h h' : eb_H} (H : mlany h) (k : ag h h' 74 77) : mlany h' := by
  obtain ⟨up, co, to, ow, a, b, c, d⟩ := H
  exact ⟨up, co, to, ow, (k _ (by omega) (by omega)).trans a, (k _ (by omega) (by omega)).trans b, (k _ (by omega) (by omega)).trans c, (k _ (by omega) (by omega)).trans d⟩
theorem c_X10_layBy {wd wf : Nat → Int} {m : Int} (H_this : h 67 = mo c) (H_this_st : h 68 = eb_ia 525 sf) (hm : ms sf T) (HO : TX_ok T) (H_wd : h 73 = eb_ia 40 wd) (hwd : ∀ w, w < T.1.length → wd w = wf w) (hq : lt_ok (T.1.length, wf, m, T.2.2.1, T.2.2.2.1, T.2.2.2.2)) (HM : mlany h) : eb_T mX10_layBy [.ref 67, .int (eb_I m)] n h (eb_G none n (fun h' => ml h' (T.1.length, wf, m, T.2.2.1, T.2.2.2.1, T.2.2.2.2) ∧ ∀ k, (k < 74 ∨ 77 < k) → h' k = h k)) := by
  refine eb_T.of (by decide +kernel) (Nat.le_of_ble_eq_true rfl) ?_
  show eb_V _ _ 0 [.ref 67, .int (eb_I m), eb_no, eb_no, eb_no, eb_no] [] (n, 0, 0) h _
  have hN : T.1.length ≤ 40 := HO.1.1
  have e0 : sf (0 : Int).toNat = (T.1.length : Int) := hm.1
  obtain ⟨up0, co0, to0, ow0, U0, C0, O0, W0⟩ := HM
  have hco := lt_cok hq
  obtain ⟨Q, hQ⟩ : ∃ Q : lt_Q, Q = (T.1.length, wf, m, T.2.2.1, T.2.2.2.1, T.2.2.2.2) := ⟨_, rfl⟩
  rw [← hQ] at hq hco ⊢
  have hQ1 : Q.1 = T.1.length := by rw [hQ]
  have hQ2 : Q.2.1 = wf := by rw [hQ]
  have l2 : ∀ (d j : Nat) (h1 : eb_H) (up co to ow : Nat → Int) (x4 x5 : Value), 1 ≤ j → j + d = T.1.length + 1 → h1 74 = eb_ia 41 up → h1 75 = eb_ia 1681 co → h1 76 = eb_ia 41 to → h1 77 = eb_ia 41 ow → (∀ k, (k < 74 ∨ 77 < k) → h1 k = h k) → (∀ k, k ≤ T.1.length → up k = lt_pl wf k) → (∀ a b, a < b → b < j → co (41 * a + b) = lt_c Q a b) → (∀ e, e < j → to e = dp_t (lt_c Q) e) → (∀ e, e < j → ow e = dp_o (lt_c Q) e) → eb_V mX10_layBy (fun _ _ _ => True) 66 [.ref 67, .int (eb_I m), .int (eb_I (T.1.length : Int)), .int (eb_I (j : Int)), x4, x5] [] (n, 0, 0) h1 (eb_R mX10_layBy (eb_G none n (fun h' => ml h' Q ∧ ∀ k, (k < 74 ∨ 77 < k) → h' k = h k))) := by
    intro d
    induction d with
    | zero =>
      intro j h1 up co to ow x4 x5 hj hjd U1 C1 O1 W1 hfr g1 g2 g3 g4
      refine V_iload_n eX10_layBy_66 rfl rfl ?_
      refine V_iload_n eX10_layBy_67 rfl rfl ?_
      refine V_icmp_gt (tgt := 167) eX10_layBy_68 rfl (by omega) (fun c_68 => ?_) (fun c_68 => ?_)
      · exact V_vret eX10_layBy_167 ⟨Nat.zero_le _, Nat.zero_le _⟩ rfl (⟨rfl, rfl, ⟨up, co, to, ow, U1, C1, O1, W1, fun k hk => by rw [hQ2]; exact g1 k (by omega), fun a b q1 q2 => g2 a b q1 (by omega), fun e he => g3 e (by omega), fun e he => g4 e (by omega)⟩, hfr⟩)
      · exact absurd (by omega) c_68
    | succ d ih =>
      intro j h1 up co to ow x4 x5 hj hjd U1 C1 O1 W1 hfr g1 g2 g3 g4
      have hjN : j ≤ Q.1 := by omega
      have hfl := dp_f_lt hco hjN
      have inner : ∀ (d2 i : Nat) (h2 : eb_H) (co2 to2 ow2 : Nat → Int) (x5 : Value), i + d2 = j → h2 74 = eb_ia 41 up → h2 75 = eb_ia 1681 co2 → h2 76 = eb_ia 41 to2 → h2 77 = eb_ia 41 ow2 → (∀ k, (k < 74 ∨ 77 < k) → h2 k = h k) → (∀ a b, a < b → b < j → co2 (41 * a + b) = lt_c Q a b) → (∀ a, a < i → co2 (41 * a + j) = lt_c Q a j) → (∀ e, e < j → to2 e = dp_t (lt_c Q) e) → to2 j = dp_m (dp_f (lt_c Q) j) i → (∀ e, e < j → ow2 e = dp_o (lt_c Q) e) → (0 < i → ow2 j = dp_a (dp_f (lt_c Q) j) i) → eb_V mX10_layBy (fun _ _ _ => True) 82 [.ref 67, .int (eb_I m), .int (eb_I (T.1.length : Int)), .int (eb_I (j : Int)), .int (eb_I (i : Int)), x5] [] (n, 0, 0) h2 (eb_R mX10_layBy (eb_G none n (fun h' => ml h' Q ∧ ∀ k, (k < 74 ∨ 77 < k) → h' k = h k))) := by
        intro d2
        induction d2 with
        | zero =>
          intro i h2 co2 to2 ow2 x5 hi U2 C2 O2 W2 hfr2 k2 k3 k4 k5 k6 k7
          have : i = j := by omega
          subst this
          refine V_iload eX10_layBy_82 rfl ?_
          refine V_iload_n eX10_layBy_84 rfl rfl ?_
          refine V_icmp_ge (tgt := 161) eX10_layBy_85 rfl (by omega) (fun c_85 => ?_) (fun c_85 => ?_)
          · refine V_iinc eX10_layBy_161 rfl rfl (eb_sS (eb_sS (eb_sS eb_s0))) ?_
            refine V_goto (tgt := 66) eX10_layBy_164 rfl ?_
            refine ih (i + 1) h2 up co2 to2 ow2 _ _ (by omega) (by omega) U2 C2 O2 W2 hfr2 g1 (fun a b q1 q2 => ?_) (fun e he => ?_) (fun e he => ?_)
            · rcases Nat.lt_or_ge b i with z | z
              · exact k2 a b q1 z
              · have : b = i := by omega
                subst this
                exact k3 a q1
            · rcases Nat.lt_or_ge e i with z | z
              · exact k4 e z
              · have : e = i := by omega
                subst this
                rw [k5, dp_t_s _ (by omega)]
            · rcases Nat.lt_or_ge e i with z | z
              · exact k6 e z
              · have : e = i := by omega
                subst this
                rw [k7 (by omega)]
                rfl
          · exact absurd (Int.le_refl _) c_85
        | succ d2 ih2 =>
          intro i h2 co2 to2 ow2 x5 hi U2 C2 O2 W2 hfr2 k2 k3 k4 k5 k6 k7
          have hij : i < j := by omega
          have H_this : h2 67 = mo c := (hfr2 67 (by omega)).trans H_this
          have H_this_st : h2 68 = _ := (hfr2 68 (by omega)).trans H_this_st
          have H_this_totals := O2
          have H_this_costs := C2
          have H_this_owners := W2
          have ei := g1 i (by omega)
          have ej := g1 j (by omega)
          have hsl := lt_slack hq hij hjN
          rw [hQ] at hsl
          simp only at hsl
          have TC := c_X10_costOf (n := n) (i := i) (j := j) (m := m) H_this H_this_st U2 hm HO (by omega) (by omega) (by rw [ei, ej]; exact hsl)
          have ec : lt_pr T.1.length T.2.2.1 T.2.2.2.1 T.2.2.2.2 (m - (up j - up i - 1)) j = lt_c Q i j := by rw [ei, ej, hQ]; rfl
          rw [ec] at TC
          have hcr := hco i j hij hjN
          have hti := k4 i hij
          have htr := dp_t_r hco i (by omega)
          have hfi : to2 i + lt_c Q i j = dp_f (lt_c Q) j i := by rw [hti]; rfl
          have hfr1 := hfl i hij
          have hmt := dp_m_top (dp_f (lt_c Q) j) i
          have hm0 : 0 ≤ dp_m (dp_f (lt_c Q) j) i := by
            rcases Int.lt_or_le (dp_m (dp_f (lt_c Q) j) i) 2000000000 with q | q
            · obtain ⟨a, a1, a2⟩ := dp_m_att i q
              have := hfl a (by omega)
              omega
            · omega
          have em : dp_m (dp_f (lt_c Q) j) (i + 1) = if dp_f (lt_c Q) j i < dp_m (dp_f (lt_c Q) j) i then dp_f (lt_c Q) j i else dp_m (dp_f (lt_c Q) j) i := rfl
          have ea : dp_a (dp_f (lt_c Q) j) (i + 1) = if dp_f (lt_c Q) j i < dp_m (dp_f (lt_c Q) j) i then (i : Int) else dp_a (dp_f (lt_c Q) j) i := rfl
          have ix : ((41 : Int) * (i : Int) + (j : Int)).toNat = 41 * i + j := by omega
          have kc : ∀ a b, (a < b ∧ b < j) ∨ (b = j ∧ a < i) → eb_set co2 (41 * i + j) (lt_c Q i j) (41 * a + b) = co2 (41 * a + b) := fun a b q => by
            unfold eb_set
            rw [if_neg (by omega)]
          have J : ∀ (h3 : eb_H) (to3 ow3 : Nat → Int) (x5 : Value), h3 74 = eb_ia 41 up → h3 75 = eb_ia 1681 (eb_set co2 (41 * i + j) (lt_c Q i j)) → h3 76 = eb_ia 41 to3 → h3 77 = eb_ia 41 ow3 → (∀ k, (k < 74 ∨ 77 < k) → h3 k = h k) → (∀ e, e < j → to3 e = dp_t (lt_c Q) e) → to3 j = dp_m (dp_f (lt_c Q) j) (i + 1) → (∀ e, e < j → ow3 e = dp_o (lt_c Q) e) → ow3 j = dp_a (dp_f (lt_c Q) j) (i + 1) → eb_V mX10_layBy (fun _ _ _ => True) 155 [.ref 67, .int (eb_I m), .int (eb_I (T.1.length : Int)), .int (eb_I (j : Int)), .int (eb_I (i : Int)), x5] [] (n, 0, 0) h3 (eb_R mX10_layBy (eb_G none n (fun h' => ml h' Q ∧ ∀ k, (k < 74 ∨ 77 < k) → h' k = h k))) := by
            intro h3 to3 ow3 x5 U3 C3 O3 W3 hfr3 j1 j2 j3 j4
            refine V_iinc eX10_layBy_155 rfl rfl (eb_sS (eb_sS (eb_sS (eb_sS eb_s0)))) ?_
            refine V_goto (tgt := 82) eX10_layBy_158 rfl ?_
            refine ih2 (i + 1) h3 _ to3 ow3 _ (by omega) U3 C3 O3 W3 hfr3 (fun a b q1 q2 => ?_) (fun a ha => ?_) j1 j2 j3 (fun _ => j4)
            · rw [kc a b (Or.inl ⟨q1, q2⟩)]
              exact k2 a b q1 q2
            · rcases Nat.lt_or_ge a i with z | z
              · rw [kc a j (Or.inr ⟨rfl, z⟩)]
                exact k3 a z
              · have : a = i := by omega
                subst this
                exact if_pos rfl
          refine V_iload eX10_layBy_82 rfl ?_
          refine V_iload_n eX10_layBy_84 rfl rfl ?_
          refine V_icmp_ge (tgt := 161) eX10_layBy_85 rfl (by omega) (fun c_85 => ?_) (fun c_85 => ?_)
          · exact absurd c_85 (by omega)
          · refine V_aload_n eX10_layBy_88 rfl rfl ?_
            refine V_iload eX10_layBy_89 rfl ?_
            refine V_iload_n eX10_layBy_91 rfl rfl ?_
            refine V_iload_n eX10_layBy_92 rfl rfl ?_
            refine V_cvi eX10_layBy_93 (TC) H_this rfl rfl (Nat.le_of_ble_eq_true rfl) ⟨rfl, rfl⟩ ⟨Nat.zero_le _, Nat.zero_le _⟩ ?_
            refine V_istore eX10_layBy_96 (Nat.le_of_ble_eq_true rfl) rfl (eb_sS (eb_sS (eb_sS (eb_sS (eb_sS eb_s0))))) ?_
            refine V_aload_n eX10_layBy_98 rfl rfl ?_
            refine V_getf eX10_layBy_99 H_this rfl ?_
            refine V_bipush eX10_layBy_102 (by decide) ?_
            refine V_iload eX10_layBy_104 rfl ?_
            refine V_imul eX10_layBy_106 ?_
            refine V_iload_n eX10_layBy_107 rfl rfl ?_
            refine V_iadd eX10_layBy_108 ?_
            refine V_iload eX10_layBy_109 rfl ?_
            refine V_iast eX10_layBy_111 H_this_costs (by omega) ?_
            rw [ix]
            refine V_aload_n eX10_layBy_112 rfl rfl ?_
            refine V_getf eX10_layBy_113 (eb_up_n (by omega) H_this) rfl ?_
            refine V_iload eX10_layBy_116 rfl ?_
            refine V_iald eX10_layBy_118 (eb_up_n (by omega) H_this_totals) (by omega) ?_
            rw [Int.toNat_natCast]
            refine V_iload eX10_layBy_119 rfl ?_
            refine V_iadd eX10_layBy_121 ?_
            rw [hfi]
            refine V_aload_n eX10_layBy_122 rfl rfl ?_
            refine V_getf eX10_layBy_123 (eb_up_n (by omega) H_this) rfl ?_
            refine V_iload_n eX10_layBy_126 rfl rfl ?_
            refine V_iald eX10_layBy_127 (eb_up_n (by omega) H_this_totals) (by omega) ?_
            rw [Int.toNat_natCast, k5]
            refine V_icmp_ge (tgt := 155) eX10_layBy_128 rfl (by omega) (fun c_128 => ?_) (fun c_128 => ?_)
            · refine J _ to2 ow2 _ (eb_up_n (by omega) U2) eb_up_s (eb_up_n (by omega) O2) (eb_up_n (by omega) W2) (fun k hk => by rw [eb_up, if_neg (by omega)]; exact hfr2 k hk) k4 ?_ k6 ?_
              · rw [em, if_neg (by omega)]
                exact k5
              · rw [ea, if_neg (by omega)]
                rcases Nat.eq_zero_or_pos i with z | z
                · subst z
                  rw [show dp_m (dp_f (lt_c Q) j) 0 = 2000000000 from rfl] at c_128
                  omega
                · exact k7 z
            · refine V_aload_n eX10_layBy_131 rfl rfl ?_
              refine V_getf eX10_layBy_132 (eb_up_n (by omega) H_this) rfl ?_
              refine V_iload_n eX10_layBy_135 rfl rfl ?_
              refine V_aload_n eX10_layBy_136 rfl rfl ?_
              refine V_getf eX10_layBy_137 (eb_up_n (by omega) H_this) rfl ?_
              refine V_iload eX10_layBy_140 rfl ?_
              refine V_iald eX10_layBy_142 (eb_up_n (by omega) H_this_totals) (by omega) ?_
              rw [Int.toNat_natCast]
              refine V_iload eX10_layBy_143 rfl ?_
              refine V_iadd eX10_layBy_145 ?_
              rw [hfi]
              refine V_iast eX10_layBy_146 (eb_up_n (by omega) H_this_totals) (by omega) ?_
              refine V_aload_n eX10_layBy_147 rfl rfl ?_
              refine V_getf eX10_layBy_148 (eb_up_n (by omega) (eb_up_n (by omega) H_this)) rfl ?_
              refine V_iload_n eX10_layBy_151 rfl rfl ?_
              refine V_iload eX10_layBy_152 rfl ?_
              refine V_iast eX10_layBy_154 (eb_up_n (by omega) (eb_up_n (by omega) H_this_owners)) (by omega) ?_
              simp only [Int.toNat_natCast]
              refine J _ (eb_set to2 j (dp_f (lt_c Q) j i)) (eb_set ow2 j (i : Int)) _ (eb_up_n (by omega) (eb_up_n (by omega) (eb_up_n (by omega) U2))) (eb_up_n (by omega) (eb_up_n (by omega) eb_up_s)) (eb_up_n (by omega) eb_up_s) eb_up_s (fun k hk => by rw [eb_up, if_neg (by omega), eb_up, if_neg (by omega), eb_up, if_neg (by omega)]; exact hfr2 k hk) (fun e he => ?_) ?_ (fun e he => ?_) ?_
              · unfold eb_set
                rw [if_neg (by omega)]
                exact k4 e he
              · rw [em, if_pos (by omega)]
                exact if_pos rfl
              · unfold eb_set
                rw [if_neg (by omega)]
                exact k6 e he
              · rw [ea, if_pos (by omega)]
                exact if_pos rfl
      have H_this : h1 67 = mo c := (hfr 67 (by omega)).trans H_this
      have H_this_totals := O1
      refine V_iload_n eX10_layBy_66 rfl rfl ?_
      refine V_iload_n eX10_layBy_67 rfl rfl ?_
      refine V_icmp_gt (tgt := 167) eX10_layBy_68 rfl (by omega) (fun c_68 => ?_) (fun c_68 => ?_)
      · exact absurd c_68 (by omega)
      · refine V_aload_n eX10_layBy_71 rfl rfl ?_
        refine V_getf eX10_layBy_72 H_this rfl ?_
        refine V_iload_n eX10_layBy_75 rfl rfl ?_
        refine V_ldc (a := 2000000000) eX10_layBy_76 wd_870 (by decide) ?_
        refine V_iast eX10_layBy_78 H_this_totals (by omega) ?_
        refine V_iconst eX10_layBy_79 ?_
        refine V_istore eX10_layBy_80 (Nat.le_of_ble_eq_true rfl) rfl (eb_sS (eb_sS (eb_sS (eb_sS eb_s0)))) ?_
        rw [Int.toNat_natCast]
        refine inner j 0 _ co (eb_set to j 2000000000) ow _ (by omega) (eb_up_n (by omega) U1) (eb_up_n (by omega) C1) eb_up_s (eb_up_n (by omega) W1) (fun k hk => by rw [eb_up, if_neg (by omega)]; exact hfr k hk) g2 (fun a ha => absurd ha (by omega)) (fun e he => ?_) (if_pos rfl) g4 (fun q => absurd q (by omega))
        unfold eb_set
        rw [if_neg (by omega)]
        exact g3 e he
  have l1 : ∀ (d w : Nat) (h1 : eb_H) (up : Nat → Int), w + d = T.1.length → h1 74 = eb_ia 41 up → (∀ k, k ≠ 74 → h1 k = h k) → (∀ k, k ≤ w → up k = lt_pl wf k) → eb_V mX10_layBy (fun _ _ _ => True) 16 [.ref 67, .int (eb_I m), .int (eb_I (T.1.length : Int)), .int (eb_I (w : Int)), eb_no, eb_no] [] (n, 0, 0) h1 (eb_R mX10_layBy (eb_G none n (fun h' => ml h' Q ∧ ∀ k, (k < 74 ∨ 77 < k) → h' k = h k))) := by
    intro d
    induction d with
    | zero =>
      intro w h1 up hw U1 hfr g
      have H_this : h1 67 = mo c := (hfr 67 (by omega)).trans H_this
      have H_this_totals : h1 76 = _ := (hfr 76 (by omega)).trans O0
      have H_this_owners : h1 77 = _ := (hfr 77 (by omega)).trans W0
      refine V_iload_n eX10_layBy_16 rfl rfl ?_
      refine V_iload_n eX10_layBy_17 rfl rfl ?_
      refine V_icmp_ge (tgt := 50) eX10_layBy_18 rfl (by omega) (fun c_18 => ?_) (fun c_18 => ?_)
      · refine V_aload_n eX10_layBy_50 rfl rfl ?_
        refine V_getf eX10_layBy_51 H_this rfl ?_
        refine V_iconst eX10_layBy_54 ?_
        refine V_iconst eX10_layBy_55 ?_
        refine V_iast eX10_layBy_56 H_this_totals (by omega) ?_
        refine V_aload_n eX10_layBy_57 rfl rfl ?_
        refine V_getf eX10_layBy_58 (eb_up_n (by omega) H_this) rfl ?_
        refine V_iconst eX10_layBy_61 ?_
        refine V_iconst eX10_layBy_62 ?_
        refine V_iast eX10_layBy_63 (eb_up_n (by omega) H_this_owners) (by omega) ?_
        refine V_iconst eX10_layBy_64 ?_
        refine V_istore_n eX10_layBy_65 rfl (Nat.le_of_ble_eq_true rfl) rfl (eb_sS (eb_sS (eb_sS eb_s0))) ?_
        refine l2 T.1.length 1 _ up co0 (eb_set to0 0 0) (eb_set ow0 0 (-1)) _ _ (Nat.le_refl _) (by omega) (eb_up_n (by omega) (eb_up_n (by omega) U1)) (eb_up_n (by omega) (eb_up_n (by omega) ((hfr 75 (by omega)).trans C0))) (eb_up_n (by omega) eb_up_s) eb_up_s (fun k hk => by rw [eb_up, if_neg (by omega), eb_up, if_neg (by omega)]; exact hfr k (by omega)) (fun k hk => g k (by omega)) (fun a b q1 q2 => absurd q2 (by omega)) (fun e he => ?_) (fun e he => ?_)
        · have : e = 0 := by omega
          subst this
          rfl
        · have : e = 0 := by omega
          subst this
          rfl
      · exact absurd (by omega) c_18
    | succ d ih =>
      intro w h1 up hw U1 hfr g
      have H_this : h1 67 = mo c := (hfr 67 (by omega)).trans H_this
      have H_this_upTo := U1
      have H_this_wide : h1 73 = _ := (hfr 73 (by omega)).trans H_wd
      refine V_iload_n eX10_layBy_16 rfl rfl ?_
      refine V_iload_n eX10_layBy_17 rfl rfl ?_
      refine V_icmp_ge (tgt := 50) eX10_layBy_18 rfl (by omega) (fun c_18 => ?_) (fun c_18 => ?_)
      · exact absurd c_18 (by omega)
      · refine V_aload_n eX10_layBy_21 rfl rfl ?_
        refine V_getf eX10_layBy_22 H_this rfl ?_
        refine V_iload_n eX10_layBy_25 rfl rfl ?_
        refine V_iconst eX10_layBy_26 ?_
        refine V_iadd eX10_layBy_27 ?_
        refine V_aload_n eX10_layBy_28 rfl rfl ?_
        refine V_getf eX10_layBy_29 H_this rfl ?_
        refine V_iload_n eX10_layBy_32 rfl rfl ?_
        refine V_iald eX10_layBy_33 H_this_upTo (by omega) ?_
        rw [Int.toNat_natCast]
        refine V_aload_n eX10_layBy_34 rfl rfl ?_
        refine V_getf eX10_layBy_35 H_this rfl ?_
        refine V_iload_n eX10_layBy_38 rfl rfl ?_
        refine V_iald eX10_layBy_39 H_this_wide (by omega) ?_
        rw [Int.toNat_natCast]
        refine V_iadd eX10_layBy_40 ?_
        refine V_iconst eX10_layBy_41 ?_
        refine V_iadd eX10_layBy_42 ?_
        refine V_iast eX10_layBy_43 H_this_upTo (by omega) ?_
        refine V_iinc eX10_layBy_44 rfl rfl (eb_sS (eb_sS (eb_sS eb_s0))) ?_
        refine V_goto (tgt := 16) eX10_layBy_47 rfl ?_
        rw [show ((w : Int) + 1).toNat = w + 1 by omega]
        refine ih (w + 1) _ _ (by omega) eb_up_s (fun k hk => by rw [eb_up, if_neg hk]; exact hfr k hk) (fun k hk => ?_)
        unfold eb_set
        by_cases z : k = w + 1
        · rw [if_pos z, g w (Nat.le_refl _), hwd w (by omega), z]
          rfl
        · rw [if_neg z]
          exact g k (by omega)
  have H_this_upTo := U0
  refine V_aload_n eX10_layBy_0 rfl rfl ?_
  refine V_getf eX10_layBy_1 H_this rfl ?_
  refine V_iconst eX10_layBy_4 ?_
  refine V_iald eX10_layBy_5 H_this_st (by omega) ?_
  rw [e0]
  refine V_istore_n eX10_layBy_6 rfl (Nat.le_of_ble_eq_true rfl) rfl (eb_sS (eb_sS eb_s0)) ?_
  refine V_aload_n eX10_layBy_7 rfl rfl ?_
  refine V_getf eX10_layBy_8 H_this rfl ?_
  refine V_iconst eX10_layBy_11 ?_
  refine V_iconst eX10_layBy_12 ?_
  refine V_iast eX10_layBy_13 H_this_upTo (by omega) ?_
  refine V_iconst eX10_layBy_14 ?_
  refine V_istore_n eX10_layBy_15 rfl (Nat.le_of_ble_eq_true rfl) rfl (eb_sS (eb_sS (eb_sS eb_s0))) ?_
  refine l1 T.1.length 0 _ _ (by omega) eb_up_s (fun k hk => by rw [eb_up, if_neg hk]) (fun k hk => ?_)
  have : k = 0 := by omega
  subst this
  rfl
end M2
