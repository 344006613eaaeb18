def mk (c c' : Nat → Int) : Prop := c' 2 = c 2 ∧ c' 3 = c 3 ∧ c' 5 = c 5 ∧ c' 6 = c 6 ∧ c' 19 = c 19 ∧ c' 21 = c 21
theorem lc_no {P : Nat → Prop} {M : Nat} {v : Int} (h : lc (fun x => (1 ≤ x ∧ x < M) ∧ P x) v) (hp : ¬ P M) : lc (fun x => (1 ≤ x ∧ x < M + 1) ∧ P x) v := by
  have e : ∀ x, ((1 ≤ x ∧ x < M + 1) ∧ P x) → ((1 ≤ x ∧ x < M) ∧ P x) := fun x hx => by
    refine ⟨⟨hx.1.1, ?_⟩, hx.2⟩
    rcases Nat.lt_or_ge x M with z | z
    · exact z
    · have : x = M := by omega
      exact absurd (this ▸ hx.2) hp
  rcases h with ⟨a, b⟩ | ⟨m, a1, a2, a3⟩
  · exact Or.inl ⟨a, fun m hm => b m (e m hm)⟩
  · exact Or.inr ⟨m, ⟨⟨a1.1.1, by omega⟩, a1.2⟩, a2, fun m' hm => a3 m' (e m' hm)⟩
theorem lc_yes {P : Nat → Prop} {M : Nat} {v : Int} (h : lc (fun x => (1 ≤ x ∧ x < M) ∧ P x) v) (h1 : 1 ≤ M) (hp : P M) : lc (fun x => (1 ≤ x ∧ x < M + 1) ∧ P x) (if v < 0 then (M : Int) else v) := by
  rcases h with ⟨a, b⟩ | ⟨m, a1, a2, a3⟩
  · rw [if_pos (by omega)]
    refine Or.inr ⟨M, ⟨⟨h1, by omega⟩, hp⟩, rfl, fun m' hm => ?_⟩
    rcases Nat.lt_or_ge m' M with z | z
    · exact absurd ⟨⟨hm.1.1, z⟩, hm.2⟩ (b m')
    · exact z
  · rw [if_neg (by omega)]
    refine Or.inr ⟨m, ⟨⟨a1.1.1, by omega⟩, a1.2⟩, a2, fun m' hm => ?_⟩
    rcases Nat.lt_or_ge m' M with z | z
    · exact a3 m' ⟨⟨hm.1.1, z⟩, hm.2⟩
    · omega
theorem gc_no {P : Nat → Prop} {M : Nat} {v : Int} (h : gc (fun x => (1 ≤ x ∧ x < M) ∧ P x) v) (hp : ¬ P M) : gc (fun x => (1 ≤ x ∧ x < M + 1) ∧ P x) v := by
  have e : ∀ x, ((1 ≤ x ∧ x < M + 1) ∧ P x) → ((1 ≤ x ∧ x < M) ∧ P x) := fun x hx => by
    refine ⟨⟨hx.1.1, ?_⟩, hx.2⟩
    rcases Nat.lt_or_ge x M with z | z
    · exact z
    · have : x = M := by omega
      exact absurd (this ▸ hx.2) hp
  rcases h with ⟨a, b⟩ | ⟨m, a1, a2, a3⟩
  · exact Or.inl ⟨a, fun m hm => b m (e m hm)⟩
  · exact Or.inr ⟨m, ⟨⟨a1.1.1, by omega⟩, a1.2⟩, a2, fun m' hm => a3 m' (e m' hm)⟩
theorem gc_yes {P : Nat → Prop} {M : Nat} (h1 : 1 ≤ M) (hp : P M) : gc (fun x => (1 ≤ x ∧ x < M + 1) ∧ P x) (M : Int) := Or.inr ⟨M, ⟨⟨h1, by omega⟩, hp⟩, rfl, fun m' hm => by omega⟩
theorem lc_r {P : Nat → Prop} {M : Nat} {v : Int} (h : lc (fun x => (1 ≤ x ∧ x < M) ∧ P x) v) : -1 ≤ v ∧ v ≤ M := by
  rcases h with ⟨a, b⟩ | ⟨m, a1, a2, a3⟩ <;> omega
theorem gc_r {P : Nat → Prop} {M : Nat} {v : Int} (h : gc (fun x => (1 ≤ x ∧ x < M) ∧ P x) v) : -1 ≤ v ∧ v ≤ M := by
  rcases h with ⟨a, b⟩ | ⟨m, a1, a2, a3⟩ <;> omega
def lmV (bm : Nat → Nat) (sees : List (Nat × Bool)) (c : Nat → Int) (M : Nat) (c2 : Nat → Int) : Prop := mk c c2 ∧ c2 24 = sm (su_F bm sees) 1 (M - 1) ∧ lc (fun x => (1 ≤ x ∧ x < M) ∧ ft (bm x) sees = true) (c2 25) ∧ gc (fun x => (1 ≤ x ∧ x < M) ∧ ft (bm x) sees = true) (c2 26)
def lmA (bm : Nat → Nat) (sees : List (Nat × Bool)) (M : Nat) (bb ib : Nat → Int) : Prop := ∀ x, 1 ≤ x → x < M → bb x = (bm x : Int) ∧ ib x = su_F bm sees x
abbrev bmT (T : TX) : Nat → Nat := fun m => br_mk (lt_B (TXq T m))
theorem ft_take (a : Nat) (sees : List (Nat × Bool)) (k : Nat) (hk : k < sees.length) : ft a (sees.take (k + 1)) = (ft a (sees.take k) && (a.testBit sees[k].1 == sees[k].2)) := by
  unfold ft
  rw [List.take_succ_eq_append_getElem hk, List.all_append]
  simp
section M7
variable {n : Nat} {h : eb_H} {c : Nat → Int} {sf : Nat → Int} {T : TX}
theorem c_X10_layMeasures {wd be se b0 i0 : Nat → Int} {sees : List (Nat × Bool)} (H_this : h 67 = mo c) (H_this_st : h 68 = eb_ia 525 sf) (hm : ms sf T) (HO : TX_ok T) (H_wd : h 73 = eb_ia 40 wd) (HM : mlany h) (H_be : h 78 = eb_ia 42 be) (H_se : h 80 = eb_ia 12 se) (hsu : su_ok sees) (h19 : c 19 = (sees.length : Int)) (hse : ∀ k (hk : k < sees.length), se (2 * k) = (sees[k].1 : Int) ∧ se (2 * k + 1) = if sees[k].2 then 1 else 0) (H_bb : h 82 = eb_la 201 b0) (H_ib : h 83 = eb_za 201 i0) : eb_T mX10_layMeasures [.ref 67] n h (eb_G none n (fun h' => ((∃ c2 bb ib, h' 67 = mo c2 ∧ lmV (bmT T) sees c 201 c2 ∧ h' 82 = eb_la 201 bb ∧ h' 83 = eb_za 201 ib ∧ lmA (bmT T) sees 201 bb ib) ∧ mlany h' ∧ (∃ wd, h' 73 = eb_ia 40 wd) ∧ ∃ be, h' 78 = eb_ia 42 be) ∧ ∀ k, (k < 73 ∨ 78 < k) → k ≠ 67 → k ≠ 82 → k ≠ 83 → h' k = h k)) := by
  refine eb_T.of (by decide +kernel) (Nat.le_of_ble_eq_true rfl) ?_
  show eb_V _ _ 0 [.ref 67, eb_no, eb_no, eb_no] [] (n, 0, 0) h _
  have hN : T.1.length ≤ 40 := HO.1.1
  have hl := hsu.1
  have e0 : sf 0 = (T.1.length : Int) := hm.1
  have TW := c_X10_measureWords (n := n) H_this H_this_st hm HO H_wd
  have bu : ∀ m, 1 ≤ m → m ≤ 200 → (∀ x ∈ lt_B (TXq T m), x < 41) ∧ (lt_B (TXq T m)).length ≤ 40 ∧ br_ok (dp_o (lt_c (TXq T m))) T.1.length := fun m h1 h2 => by
    have ok := TXq_ok HO h1 h2
    obtain ⟨q1, q2⟩ := lt_B_up ok
    have q3 := br_len q1 q2
    exact ⟨fun x hx => Nat.lt_of_lt_of_le (q1 x hx) (Nat.le_trans hN (by omega)), Nat.le_trans q3 hN, lt_brok ok⟩
  have bl : ∀ m, 1 ≤ m → m ≤ 200 → bmT T m < 2 ^ 41 := fun m h1 h2 => br_mk_lt (bu m h1 h2).1
  have main : ∀ (G : eb_H → Prop) (h1 : eb_H) (wd1 : Nat → Int), h1 68 = eb_ia 525 sf → h1 80 = eb_ia 12 se → h1 73 = eb_ia 40 wd1 → (∀ w, w < T.1.length → wd1 w = tx_wf T.1 w) → (∀ h2 c2 bb ib be, h2 67 = mo c2 → lmV (bmT T) sees c 201 c2 → h2 82 = eb_la 201 bb → h2 83 = eb_za 201 ib → lmA (bmT T) sees 201 bb ib → mlany h2 → h2 78 = eb_ia 42 be → (∀ k, (k < 74 ∨ 78 < k) → k ≠ 67 → k ≠ 82 → k ≠ 83 → h2 k = h1 k) → G h2) → ∀ (d m : Nat) (h2 : eb_H) (c2 bb ib be : Nat → Int) (x2 x3 : Value), 1 ≤ m → m + d = 201 → h2 67 = mo c2 → lmV (bmT T) sees c m c2 → h2 82 = eb_la 201 bb → h2 83 = eb_za 201 ib → lmA (bmT T) sees m bb ib → mlany h2 → h2 78 = eb_ia 42 be → (∀ k, (k < 74 ∨ 78 < k) → k ≠ 67 → k ≠ 82 → k ≠ 83 → h2 k = h1 k) → eb_V mX10_layMeasures (fun _ _ _ => True) 21 [.ref 67, .int (eb_I (m : Int)), x2, x3] [] (n, 0, 0) h2 (eb_R mX10_layMeasures (eb_G none n G)) := by
    intro G h1 wd1 A1 A2 A3 A4 hG d
    induction d with
    | zero =>
      intro m h2 c2 bb ib be x2 x3 hm1 hmd B1 B2 B3 B4 B5 B6 B7 B8
      have : m = 201 := by omega
      subst this
      refine V_iload_n eX10_layMeasures_21 rfl rfl ?_
      refine V_sipush eX10_layMeasures_22 (by decide) ?_
      refine V_icmp_gt (tgt := 177) eX10_layMeasures_25 rfl (by omega) (fun c_25 => ?_) (fun c_25 => ?_)
      · exact V_vret eX10_layMeasures_177 ⟨Nat.zero_le _, Nat.zero_le _⟩ rfl (⟨rfl, rfl, hG h2 c2 bb ib be B1 B2 B3 B4 B5 B6 B7 B8⟩)
      · exact absurd (by omega) c_25
    | succ d ih =>
      intro m h2 c2 bb ib be x2 x3 hm1 hmd B1 B2 B3 B4 B5 B6 B7 B8
      have S2 : h2 68 = eb_ia 525 sf := (B8 68 (by omega) (by omega) (by omega) (by omega)).trans A1
      have W2 : h2 73 = eb_ia 40 wd1 := (B8 73 (by omega) (by omega) (by omega) (by omega)).trans A3
      have TB : eb_T mX10_layBy [.ref 67, .int (eb_I (m : Int))] n h2 (eb_G none n (fun h' => ml h' (TXq T m) ∧ ∀ k, (k < 74 ∨ 77 < k) → h' k = h2 k)) := c_X10_layBy (n := n) B1 S2 hm HO W2 A4 (TXq_ok HO hm1 (by omega)) B6
      obtain ⟨b1, b2, b3⟩ := bu m hm1 (by omega)
      have hbm := bl m hm1 (by omega)
      have TR : ∀ h3, (∀ k, (k < 74 ∨ 77 < k) → h3 k = h2 k) → ml h3 (TXq T m) → eb_T mX10_breakLines [.ref 67] n h3 (eb_G none n (fun h' => (h' 67 = mo (eb_set c2 16 ((lt_B (TXq T m)).length : Int)) ∧ mB h' (lt_B (TXq T m)) T.1.length) ∧ ∀ k, k ≠ 67 → k ≠ 78 → h' k = h3 k)) := fun h3 hf hml => by
        obtain ⟨up, co, to, ow, U, C, O, W, q1, q2, q3, q4⟩ := hml
        exact c_X10_breakLines (n := n) ((hf 67 (by omega)).trans B1) ((hf 68 (by omega)).trans S2) e0 hN W b3 q4 ((hf 78 (by omega)).trans B7)
      obtain ⟨B21, B22, B23, B24⟩ := B2
      obtain ⟨k1, k2, k3, k4, k5, k6⟩ := B21
      have r25 := lc_r B23
      have r26 := gc_r B24
      have eF : sm (su_F (bmT T) sees) 1 (m + 1 - 1) = sm (su_F (bmT T) sees) 1 (m - 1) + su_F (bmT T) sees m := by
        rw [show m + 1 - 1 = (m - 1) + 1 by omega]
        show _ + su_F _ _ (1 + (m - 1)) = _
        rw [show 1 + (m - 1) = m by omega]
      -- the last piece, from 107 on
      have last : ∀ (h5 : eb_H) (lm : Int) (be5 bb5 : Nat → Int) (x3 : Value), h5 67 = mo (eb_set c2 16 lm) → h5 82 = eb_la 201 bb5 → (∀ x, 1 ≤ x → x < m + 1 → bb5 x = (bmT T x : Int)) → h5 83 = eb_za 201 ib → mlany h5 → h5 78 = eb_ia 42 be5 → (∀ k, (k < 74 ∨ 78 < k) → k ≠ 67 → k ≠ 82 → k ≠ 83 → h5 k = h1 k) → eb_V mX10_layMeasures (fun _ _ _ => True) 107 [.ref 67, .int (eb_I (m : Int)), .int (eb_I (su_F (bmT T) sees m)), x3] [] (n, 0, 0) h5 (eb_R mX10_layMeasures (eb_G none n G)) := by
        intro h5 lm be5 bb5 x3 H_this C2 C3 H_this_isBy C5 C6 C7
        have hA : lmA (bmT T) sees (m + 1) bb5 (eb_set ib ((m : Int)).toNat (su_F (bmT T) sees m)) := fun x x1 x2 => by
          refine ⟨C3 x x1 x2, ?_⟩
          unfold eb_set
          by_cases y : x = m
          · rw [if_pos (by omega), y]
          · rw [if_neg (by omega)]
            exact (B5 x x1 (by omega)).2
        have nxt : ∀ (h6 : eb_H) (c6 : Nat → Int), h6 67 = mo c6 → lmV (bmT T) sees c (m + 1) c6 → (∀ k, k ≠ 67 → k ≠ 83 → h6 k = h5 k) → h6 83 = eb_za 201 (eb_set ib ((m : Int)).toNat (su_F (bmT T) sees m)) → ∀ x2 x3 : Value, eb_V mX10_layMeasures (fun _ _ _ => True) 21 [.ref 67, .int (eb_I ((m + 1 : Nat) : Int)), x2, x3] [] (n, 0, 0) h6 (eb_R mX10_layMeasures (eb_G none n G)) := fun h6 c6 D1 D2 D3 D4 x2 x3 => ih (m + 1) h6 c6 bb5 _ be5 x2 x3 (by omega) (by omega) D1 D2 ((D3 82 (by omega) (by omega)).trans C2) D4 hA (C5.kept (fun k x y => D3 k (by omega) (by omega))) ((D3 78 (by omega) (by omega)).trans C6) (fun k z1 z2 z3 z4 => (D3 k z2 z4).trans (C7 k z1 z2 z3 z4))
        by_cases y : ft (bmT T m) sees = true
        · have ey : su_F (bmT T) sees m = 1 := by unfold su_F; rw [if_pos y]
          rw [ey] at eF nxt ⊢
          have L1 := lc_yes B23 hm1 y
          have G1 := gc_yes (P := fun x => ft (bmT T x) sees = true) hm1 y
          by_cases y2 : c2 25 < 0
          · rw [if_pos y2] at L1
            refine V_aload_n eX10_layMeasures_107 rfl rfl ?_
            refine V_getf eX10_layMeasures_108 H_this rfl ?_
            refine V_iload_n eX10_layMeasures_111 rfl rfl ?_
            refine V_iload_n eX10_layMeasures_112 rfl rfl ?_
            refine V_zast eX10_layMeasures_113 H_this_isBy (by omega) (Or.inr rfl) ?_
            refine V_aload_n eX10_layMeasures_114 rfl rfl ?_
            refine V_dup eX10_layMeasures_115 rfl ?_
            refine V_getf eX10_layMeasures_116 (eb_up_n (by omega) H_this) rfl ?_
            show eb_V _ _ 119 _ [.int (eb_I (c2 24)), _] _ _ _
            refine V_iload_n eX10_layMeasures_119 rfl rfl ?_
            refine V_if_eq (tgt := 127) eX10_layMeasures_120 rfl (by omega) (fun c_120 => ?_) (fun c_120 => ?_)
            · exact absurd c_120 (by decide)
            · refine V_iconst eX10_layMeasures_123 ?_
              refine V_goto (tgt := 128) eX10_layMeasures_124 rfl ?_
              refine V_iadd eX10_layMeasures_128 ?_
              refine V_putf eX10_layMeasures_129 (eb_up_n (by omega) H_this) eb_fitI (eb_sS (eb_sS (eb_sS (eb_sS (eb_sS (eb_sS (eb_sS (eb_sS (eb_sS (eb_sS (eb_sS (eb_sS (eb_sS (eb_sS (eb_sS (eb_sS (eb_sS (eb_sS (eb_sS (eb_sS (eb_sS (eb_sS (eb_sS (eb_sS eb_s0)))))))))))))))))))))))) (Nat.le_of_ble_eq_true rfl) ?_
              show eb_V _ _ 132 _ _ _ (eb_up _ 67 (mo (eb_set (eb_set c2 16 lm) 24 (c2 24 + 1)))) _
              refine V_aload_n eX10_layMeasures_132 rfl rfl ?_
              refine V_iload_n eX10_layMeasures_133 rfl rfl ?_
              refine V_if_eq (tgt := 148) eX10_layMeasures_134 rfl (by omega) (fun c_134 => ?_) (fun c_134 => ?_)
              · exact absurd c_134 (by decide)
              · refine V_aload_n eX10_layMeasures_137 rfl rfl ?_
                refine V_getf eX10_layMeasures_138 eb_up_s rfl ?_
                show eb_V _ _ 141 _ [.int (eb_I (c2 25)), _] _ _ _
                refine V_if_ge (tgt := 148) eX10_layMeasures_141 rfl (by omega) (fun c_141 => ?_) (fun c_141 => ?_)
                · exact absurd y2 (by omega)
                · refine V_iload_n eX10_layMeasures_144 rfl rfl ?_
                  refine V_goto (tgt := 152) eX10_layMeasures_145 rfl ?_
                  refine V_putf eX10_layMeasures_152 eb_up_s eb_fitI (eb_sS (eb_sS (eb_sS (eb_sS (eb_sS (eb_sS (eb_sS (eb_sS (eb_sS (eb_sS (eb_sS (eb_sS (eb_sS (eb_sS (eb_sS (eb_sS (eb_sS (eb_sS (eb_sS (eb_sS (eb_sS (eb_sS (eb_sS (eb_sS (eb_sS eb_s0))))))))))))))))))))))))) (Nat.le_of_ble_eq_true rfl) ?_
                  show eb_V _ _ 155 _ _ _ (eb_up _ 67 (mo (eb_set (eb_set (eb_set c2 16 lm) 24 (c2 24 + 1)) 25 (m : Int)))) _
                  refine V_aload_n eX10_layMeasures_155 rfl rfl ?_
                  refine V_iload_n eX10_layMeasures_156 rfl rfl ?_
                  refine V_if_eq (tgt := 164) eX10_layMeasures_157 rfl (by omega) (fun c_157 => ?_) (fun c_157 => ?_)
                  · exact absurd c_157 (by decide)
                  · refine V_iload_n eX10_layMeasures_160 rfl rfl ?_
                    refine V_goto (tgt := 168) eX10_layMeasures_161 rfl ?_
                    refine V_putf eX10_layMeasures_168 eb_up_s eb_fitI (eb_sS (eb_sS (eb_sS (eb_sS (eb_sS (eb_sS (eb_sS (eb_sS (eb_sS (eb_sS (eb_sS (eb_sS (eb_sS (eb_sS (eb_sS (eb_sS (eb_sS (eb_sS (eb_sS (eb_sS (eb_sS (eb_sS (eb_sS (eb_sS (eb_sS (eb_sS eb_s0)))))))))))))))))))))))))) (Nat.le_of_ble_eq_true rfl) ?_
                    show eb_V _ _ 171 _ _ _ (eb_up _ 67 (mo (eb_set (eb_set (eb_set (eb_set c2 16 lm) 24 (c2 24 + 1)) 25 (m : Int)) 26 (m : Int)))) _
                    refine V_iinc eX10_layMeasures_171 rfl rfl (eb_sS eb_s0) ?_
                    refine V_goto (tgt := 21) eX10_layMeasures_174 rfl ?_
                    exact nxt _ (eb_set (eb_set (eb_set (eb_set c2 16 lm) 24 (c2 24 + 1)) 25 (m : Int)) 26 (m : Int)) eb_up_s ⟨⟨k1, k2, k3, k4, k5, k6⟩, by rw [eF, ← B22]; rfl, L1, G1⟩ (fun k z1 z2 => by simp only [eb_up, if_neg z1, if_neg z2]) (eb_up_n (by omega) (eb_up_n (by omega) (eb_up_n (by omega) eb_up_s))) _ _
          · rw [if_neg y2] at L1
            refine V_aload_n eX10_layMeasures_107 rfl rfl ?_
            refine V_getf eX10_layMeasures_108 H_this rfl ?_
            refine V_iload_n eX10_layMeasures_111 rfl rfl ?_
            refine V_iload_n eX10_layMeasures_112 rfl rfl ?_
            refine V_zast eX10_layMeasures_113 H_this_isBy (by omega) (Or.inr rfl) ?_
            refine V_aload_n eX10_layMeasures_114 rfl rfl ?_
            refine V_dup eX10_layMeasures_115 rfl ?_
            refine V_getf eX10_layMeasures_116 (eb_up_n (by omega) H_this) rfl ?_
            show eb_V _ _ 119 _ [.int (eb_I (c2 24)), _] _ _ _
            refine V_iload_n eX10_layMeasures_119 rfl rfl ?_
            refine V_if_eq (tgt := 127) eX10_layMeasures_120 rfl (by omega) (fun c_120 => ?_) (fun c_120 => ?_)
            · exact absurd c_120 (by decide)
            · refine V_iconst eX10_layMeasures_123 ?_
              refine V_goto (tgt := 128) eX10_layMeasures_124 rfl ?_
              refine V_iadd eX10_layMeasures_128 ?_
              refine V_putf eX10_layMeasures_129 (eb_up_n (by omega) H_this) eb_fitI (eb_sS (eb_sS (eb_sS (eb_sS (eb_sS (eb_sS (eb_sS (eb_sS (eb_sS (eb_sS (eb_sS (eb_sS (eb_sS (eb_sS (eb_sS (eb_sS (eb_sS (eb_sS (eb_sS (eb_sS (eb_sS (eb_sS (eb_sS (eb_sS eb_s0)))))))))))))))))))))))) (Nat.le_of_ble_eq_true rfl) ?_
              show eb_V _ _ 132 _ _ _ (eb_up _ 67 (mo (eb_set (eb_set c2 16 lm) 24 (c2 24 + 1)))) _
              refine V_aload_n eX10_layMeasures_132 rfl rfl ?_
              refine V_iload_n eX10_layMeasures_133 rfl rfl ?_
              refine V_if_eq (tgt := 148) eX10_layMeasures_134 rfl (by omega) (fun c_134 => ?_) (fun c_134 => ?_)
              · exact absurd c_134 (by decide)
              · refine V_aload_n eX10_layMeasures_137 rfl rfl ?_
                refine V_getf eX10_layMeasures_138 eb_up_s rfl ?_
                show eb_V _ _ 141 _ [.int (eb_I (c2 25)), _] _ _ _
                refine V_if_ge (tgt := 148) eX10_layMeasures_141 rfl (by omega) (fun c_141 => ?_) (fun c_141 => ?_)
                · refine V_aload_n eX10_layMeasures_148 rfl rfl ?_
                  refine V_getf eX10_layMeasures_149 eb_up_s rfl ?_
                  show eb_V _ _ 152 _ [.int (eb_I (c2 25)), _] _ _ _
                  refine V_putf eX10_layMeasures_152 eb_up_s eb_fitI (eb_sS (eb_sS (eb_sS (eb_sS (eb_sS (eb_sS (eb_sS (eb_sS (eb_sS (eb_sS (eb_sS (eb_sS (eb_sS (eb_sS (eb_sS (eb_sS (eb_sS (eb_sS (eb_sS (eb_sS (eb_sS (eb_sS (eb_sS (eb_sS (eb_sS eb_s0))))))))))))))))))))))))) (Nat.le_of_ble_eq_true rfl) ?_
                  show eb_V _ _ 155 _ _ _ (eb_up _ 67 (mo (eb_set (eb_set (eb_set c2 16 lm) 24 (c2 24 + 1)) 25 (c2 25)))) _
                  refine V_aload_n eX10_layMeasures_155 rfl rfl ?_
                  refine V_iload_n eX10_layMeasures_156 rfl rfl ?_
                  refine V_if_eq (tgt := 164) eX10_layMeasures_157 rfl (by omega) (fun c_157 => ?_) (fun c_157 => ?_)
                  · exact absurd c_157 (by decide)
                  · refine V_iload_n eX10_layMeasures_160 rfl rfl ?_
                    refine V_goto (tgt := 168) eX10_layMeasures_161 rfl ?_
                    refine V_putf eX10_layMeasures_168 eb_up_s eb_fitI (eb_sS (eb_sS (eb_sS (eb_sS (eb_sS (eb_sS (eb_sS (eb_sS (eb_sS (eb_sS (eb_sS (eb_sS (eb_sS (eb_sS (eb_sS (eb_sS (eb_sS (eb_sS (eb_sS (eb_sS (eb_sS (eb_sS (eb_sS (eb_sS (eb_sS (eb_sS eb_s0)))))))))))))))))))))))))) (Nat.le_of_ble_eq_true rfl) ?_
                    show eb_V _ _ 171 _ _ _ (eb_up _ 67 (mo (eb_set (eb_set (eb_set (eb_set c2 16 lm) 24 (c2 24 + 1)) 25 (c2 25)) 26 (m : Int)))) _
                    refine V_iinc eX10_layMeasures_171 rfl rfl (eb_sS eb_s0) ?_
                    refine V_goto (tgt := 21) eX10_layMeasures_174 rfl ?_
                    exact nxt _ (eb_set (eb_set (eb_set (eb_set c2 16 lm) 24 (c2 24 + 1)) 25 (c2 25)) 26 (m : Int)) eb_up_s ⟨⟨k1, k2, k3, k4, k5, k6⟩, by rw [eF, ← B22]; rfl, L1, G1⟩ (fun k z1 z2 => by simp only [eb_up, if_neg z1, if_neg z2]) (eb_up_n (by omega) (eb_up_n (by omega) (eb_up_n (by omega) eb_up_s))) _ _
                · exact absurd (by omega) y2
        · have ey : su_F (bmT T) sees m = 0 := by unfold su_F; rw [if_neg y]
          rw [ey] at eF nxt ⊢
          have L1 := lc_no (P := fun x => ft (bmT T x) sees = true) B23 y
          have G1 := gc_no (P := fun x => ft (bmT T x) sees = true) B24 y
          refine V_aload_n eX10_layMeasures_107 rfl rfl ?_
          refine V_getf eX10_layMeasures_108 H_this rfl ?_
          refine V_iload_n eX10_layMeasures_111 rfl rfl ?_
          refine V_iload_n eX10_layMeasures_112 rfl rfl ?_
          refine V_zast eX10_layMeasures_113 H_this_isBy (by omega) (Or.inl rfl) ?_
          refine V_aload_n eX10_layMeasures_114 rfl rfl ?_
          refine V_dup eX10_layMeasures_115 rfl ?_
          refine V_getf eX10_layMeasures_116 (eb_up_n (by omega) H_this) rfl ?_
          show eb_V _ _ 119 _ [.int (eb_I (c2 24)), _] _ _ _
          refine V_iload_n eX10_layMeasures_119 rfl rfl ?_
          refine V_if_eq (tgt := 127) eX10_layMeasures_120 rfl (by omega) (fun c_120 => ?_) (fun c_120 => ?_)
          · refine V_iconst eX10_layMeasures_127 ?_
            refine V_iadd eX10_layMeasures_128 ?_
            refine V_putf eX10_layMeasures_129 (eb_up_n (by omega) H_this) eb_fitI (eb_sS (eb_sS (eb_sS (eb_sS (eb_sS (eb_sS (eb_sS (eb_sS (eb_sS (eb_sS (eb_sS (eb_sS (eb_sS (eb_sS (eb_sS (eb_sS (eb_sS (eb_sS (eb_sS (eb_sS (eb_sS (eb_sS (eb_sS (eb_sS eb_s0)))))))))))))))))))))))) (Nat.le_of_ble_eq_true rfl) ?_
            show eb_V _ _ 132 _ _ _ (eb_up _ 67 (mo (eb_set (eb_set c2 16 lm) 24 (c2 24 + 0)))) _
            refine V_aload_n eX10_layMeasures_132 rfl rfl ?_
            refine V_iload_n eX10_layMeasures_133 rfl rfl ?_
            refine V_if_eq (tgt := 148) eX10_layMeasures_134 rfl (by omega) (fun c_134 => ?_) (fun c_134 => ?_)
            · refine V_aload_n eX10_layMeasures_148 rfl rfl ?_
              refine V_getf eX10_layMeasures_149 eb_up_s rfl ?_
              show eb_V _ _ 152 _ [.int (eb_I (c2 25)), _] _ _ _
              refine V_putf eX10_layMeasures_152 eb_up_s eb_fitI (eb_sS (eb_sS (eb_sS (eb_sS (eb_sS (eb_sS (eb_sS (eb_sS (eb_sS (eb_sS (eb_sS (eb_sS (eb_sS (eb_sS (eb_sS (eb_sS (eb_sS (eb_sS (eb_sS (eb_sS (eb_sS (eb_sS (eb_sS (eb_sS (eb_sS eb_s0))))))))))))))))))))))))) (Nat.le_of_ble_eq_true rfl) ?_
              show eb_V _ _ 155 _ _ _ (eb_up _ 67 (mo (eb_set (eb_set (eb_set c2 16 lm) 24 (c2 24 + 0)) 25 (c2 25)))) _
              refine V_aload_n eX10_layMeasures_155 rfl rfl ?_
              refine V_iload_n eX10_layMeasures_156 rfl rfl ?_
              refine V_if_eq (tgt := 164) eX10_layMeasures_157 rfl (by omega) (fun c_157 => ?_) (fun c_157 => ?_)
              · refine V_aload_n eX10_layMeasures_164 rfl rfl ?_
                refine V_getf eX10_layMeasures_165 eb_up_s rfl ?_
                show eb_V _ _ 168 _ [.int (eb_I (c2 26)), _] _ _ _
                refine V_putf eX10_layMeasures_168 eb_up_s eb_fitI (eb_sS (eb_sS (eb_sS (eb_sS (eb_sS (eb_sS (eb_sS (eb_sS (eb_sS (eb_sS (eb_sS (eb_sS (eb_sS (eb_sS (eb_sS (eb_sS (eb_sS (eb_sS (eb_sS (eb_sS (eb_sS (eb_sS (eb_sS (eb_sS (eb_sS (eb_sS eb_s0)))))))))))))))))))))))))) (Nat.le_of_ble_eq_true rfl) ?_
                show eb_V _ _ 171 _ _ _ (eb_up _ 67 (mo (eb_set (eb_set (eb_set (eb_set c2 16 lm) 24 (c2 24 + 0)) 25 (c2 25)) 26 (c2 26)))) _
                refine V_iinc eX10_layMeasures_171 rfl rfl (eb_sS eb_s0) ?_
                refine V_goto (tgt := 21) eX10_layMeasures_174 rfl ?_
                exact nxt _ (eb_set (eb_set (eb_set (eb_set c2 16 lm) 24 (c2 24 + 0)) 25 (c2 25)) 26 (c2 26)) eb_up_s ⟨⟨k1, k2, k3, k4, k5, k6⟩, by rw [eF, ← B22]; rfl, L1, G1⟩ (fun k z1 z2 => by simp only [eb_up, if_neg z1, if_neg z2]) (eb_up_n (by omega) (eb_up_n (by omega) (eb_up_n (by omega) eb_up_s))) _ _
              · exact absurd rfl c_157
            · exact absurd rfl c_134
          · exact absurd rfl c_120
      have inner : ∀ (h5 : eb_H) (lm : Int) (be5 bb5 : Nat → Int), h5 67 = mo (eb_set c2 16 lm) → h5 82 = eb_la 201 bb5 → (∀ x, 1 ≤ x → x < m + 1 → bb5 x = (bmT T x : Int)) → h5 83 = eb_za 201 ib → mlany h5 → h5 78 = eb_ia 42 be5 → (∀ k, (k < 74 ∨ 78 < k) → k ≠ 67 → k ≠ 82 → k ≠ 83 → h5 k = h1 k) → ∀ (d2 k : Nat) (v : Int), k + d2 = sees.length → v = (if ft (bmT T m) (sees.take k) then 1 else 0) → eb_V mX10_layMeasures (fun _ _ _ => True) 51 [.ref 67, .int (eb_I (m : Int)), .int (eb_I v), .int (eb_I (k : Int))] [] (n, 0, 0) h5 (eb_R mX10_layMeasures (eb_G none n G)) := by
        intro h5 lm be5 bb5 H_this H_this_beginsBy C3 C4 C5 C6 C7 d2
        have H_this_seen : h5 80 = eb_ia 12 se := (C7 80 (by omega) (by omega) (by omega) (by omega)).trans A2
        induction d2 with
        | zero =>
          intro k v hk hv
          have : k = sees.length := by omega
          subst this
          rw [List.take_length] at hv
          have L := last h5 lm be5 bb5 (.int (eb_I (sees.length : Int))) H_this H_this_beginsBy C3 C4 C5 C6 C7
          have hv2 : v = su_F (bmT T) sees m := hv
          rw [← hv2] at L
          refine V_iload_n eX10_layMeasures_51 rfl rfl ?_
          refine V_aload_n eX10_layMeasures_52 rfl rfl ?_
          refine V_getf eX10_layMeasures_53 H_this rfl ?_
          show eb_V _ _ 56 _ [.int (eb_I (c2 19)), _] _ _ _
          rw [k5, h19]
          refine V_icmp_ge (tgt := 107) eX10_layMeasures_56 rfl (by omega) (fun c_56 => ?_) (fun c_56 => ?_)
          · exact L
          · exact absurd (by omega) c_56
        | succ d2 ihk =>
          intro k v hk hv
          have hkl : k < sees.length := by omega
          obtain ⟨s1, s2⟩ := hse k hkl
          have s3 := hsu.2 sees[k] (List.getElem_mem hkl)
          have n1 : ((2 : Int) * (k : Int)).toNat = 2 * k := by omega
          have n2 : ((2 : Int) * (k : Int) + 1).toNat = 2 * k + 1 := by omega
          have fk := ft_take (bmT T m) sees k hkl
          have nx := ihk (k + 1)
          rw [fk] at nx
          have bb := C3 m hm1 (by omega)
          have hb62 : bmT T m < 2 ^ 62 := by omega
          have tb := br_bit (bmT T m) sees[k].1
          have tl2 : bmT T m / 2 ^ sees[k].1 % 2 < 2 := Nat.mod_lt _ (by decide)
          by_cases y : ft (bmT T m) (sees.take k) = true
          · rw [if_pos y] at hv
            subst hv
            have hb64 : bmT T m / 2 ^ sees[k].1 < 2 ^ 64 := Nat.lt_of_le_of_lt (Nat.div_le_self _ _) (by omega)
            have two : ((bmT T m / 2 ^ sees[k].1 % 2 : Nat) : Int) = (if sees[k].2 then 1 else 0) ↔ ((bmT T m).testBit sees[k].1 == sees[k].2) = true := by
              rw [tb]
              cases (bmT T m).testBit sees[k].1 <;> cases sees[k].2 <;> simp
            have rr : 0 ≤ (if sees[k].2 then (1 : Int) else 0) ∧ (if sees[k].2 then (1 : Int) else 0) ≤ 1 := by split <;> omega
            by_cases y2 : ((bmT T m).testBit sees[k].1 == sees[k].2) = true
            · have e2 := two.2 y2
              refine V_iload_n eX10_layMeasures_51 rfl rfl ?_
              refine V_aload_n eX10_layMeasures_52 rfl rfl ?_
              refine V_getf eX10_layMeasures_53 H_this rfl ?_
              show eb_V _ _ 56 _ [.int (eb_I (c2 19)), _] _ _ _
              rw [k5, h19]
              refine V_icmp_ge (tgt := 107) eX10_layMeasures_56 rfl (by omega) (fun c_56 => ?_) (fun c_56 => ?_)
              · exact absurd c_56 (by omega)
              · refine V_iload_n eX10_layMeasures_59 rfl rfl ?_
                refine V_if_eq (tgt := 99) eX10_layMeasures_60 rfl (by omega) (fun c_60 => ?_) (fun c_60 => ?_)
                · exact absurd c_60 (by decide)
                · refine V_aload_n eX10_layMeasures_63 rfl rfl ?_
                  refine V_getf eX10_layMeasures_64 H_this rfl ?_
                  refine V_iload_n eX10_layMeasures_67 rfl rfl ?_
                  refine V_lald eX10_layMeasures_68 H_this_beginsBy (by omega) ?_
                  rw [Int.toNat_natCast, bb]
                  refine V_aload_n eX10_layMeasures_69 rfl rfl ?_
                  refine V_getf eX10_layMeasures_70 H_this rfl ?_
                  refine V_iconst eX10_layMeasures_73 ?_
                  refine V_iload_n eX10_layMeasures_74 rfl rfl ?_
                  refine V_imul eX10_layMeasures_75 ?_
                  refine V_iald eX10_layMeasures_76 H_this_seen (by omega) ?_
                  rw [n1, s1]
                  refine V_lshr eX10_layMeasures_77 (eb_shr hb62 (by omega)) ?_
                  refine V_lconst (b := 1) eX10_layMeasures_78 (by decide) ?_
                  refine V_land eX10_layMeasures_79 (eb_and1 hb64) ?_
                  refine V_aload_n eX10_layMeasures_80 rfl rfl ?_
                  refine V_getf eX10_layMeasures_81 H_this rfl ?_
                  refine V_iconst eX10_layMeasures_84 ?_
                  refine V_iload_n eX10_layMeasures_85 rfl rfl ?_
                  refine V_imul eX10_layMeasures_86 ?_
                  refine V_iconst eX10_layMeasures_87 ?_
                  refine V_iadd eX10_layMeasures_88 ?_
                  refine V_iald eX10_layMeasures_89 H_this_seen (by omega) ?_
                  rw [n2, s2]
                  refine V_i2lI eX10_layMeasures_90 (by omega) ?_
                  refine V_lcmpI eX10_layMeasures_91 (⟨by omega, by omega⟩) ?_
                  rw [eb_cmp0 e2]
                  refine V_if_ne (tgt := 99) eX10_layMeasures_92 rfl (by omega) (fun c_92 => ?_) (fun c_92 => ?_)
                  · exact absurd rfl c_92
                  · refine V_iconst eX10_layMeasures_95 ?_
                    refine V_goto (tgt := 100) eX10_layMeasures_96 rfl ?_
                    refine V_istore_n eX10_layMeasures_100 rfl (Nat.le_of_ble_eq_true rfl) rfl (eb_sS (eb_sS eb_s0)) ?_
                    refine V_iinc eX10_layMeasures_101 rfl rfl (eb_sS (eb_sS (eb_sS eb_s0))) ?_
                    refine V_goto (tgt := 51) eX10_layMeasures_104 rfl ?_
                    exact nx _ (by omega) (by rw [y, y2]; rfl)
            · have e2 : ¬ ((bmT T m / 2 ^ sees[k].1 % 2 : Nat) : Int) = (if sees[k].2 then 1 else 0) := fun z => y2 (two.1 z)
              obtain ⟨w, w1, w2, w3, w4⟩ := eb_cmpn e2
              refine V_iload_n eX10_layMeasures_51 rfl rfl ?_
              refine V_aload_n eX10_layMeasures_52 rfl rfl ?_
              refine V_getf eX10_layMeasures_53 H_this rfl ?_
              show eb_V _ _ 56 _ [.int (eb_I (c2 19)), _] _ _ _
              rw [k5, h19]
              refine V_icmp_ge (tgt := 107) eX10_layMeasures_56 rfl (by omega) (fun c_56 => ?_) (fun c_56 => ?_)
              · exact absurd c_56 (by omega)
              · refine V_iload_n eX10_layMeasures_59 rfl rfl ?_
                refine V_if_eq (tgt := 99) eX10_layMeasures_60 rfl (by omega) (fun c_60 => ?_) (fun c_60 => ?_)
                · exact absurd c_60 (by decide)
                · refine V_aload_n eX10_layMeasures_63 rfl rfl ?_
                  refine V_getf eX10_layMeasures_64 H_this rfl ?_
                  refine V_iload_n eX10_layMeasures_67 rfl rfl ?_
                  refine V_lald eX10_layMeasures_68 H_this_beginsBy (by omega) ?_
                  rw [Int.toNat_natCast, bb]
                  refine V_aload_n eX10_layMeasures_69 rfl rfl ?_
                  refine V_getf eX10_layMeasures_70 H_this rfl ?_
                  refine V_iconst eX10_layMeasures_73 ?_
                  refine V_iload_n eX10_layMeasures_74 rfl rfl ?_
                  refine V_imul eX10_layMeasures_75 ?_
                  refine V_iald eX10_layMeasures_76 H_this_seen (by omega) ?_
                  rw [n1, s1]
                  refine V_lshr eX10_layMeasures_77 (eb_shr hb62 (by omega)) ?_
                  refine V_lconst (b := 1) eX10_layMeasures_78 (by decide) ?_
                  refine V_land eX10_layMeasures_79 (eb_and1 hb64) ?_
                  refine V_aload_n eX10_layMeasures_80 rfl rfl ?_
                  refine V_getf eX10_layMeasures_81 H_this rfl ?_
                  refine V_iconst eX10_layMeasures_84 ?_
                  refine V_iload_n eX10_layMeasures_85 rfl rfl ?_
                  refine V_imul eX10_layMeasures_86 ?_
                  refine V_iconst eX10_layMeasures_87 ?_
                  refine V_iadd eX10_layMeasures_88 ?_
                  refine V_iald eX10_layMeasures_89 H_this_seen (by omega) ?_
                  rw [n2, s2]
                  refine V_i2lI eX10_layMeasures_90 (by omega) ?_
                  refine V_lcmpI eX10_layMeasures_91 (⟨by omega, by omega⟩) ?_
                  rw [w1]
                  refine V_if_ne (tgt := 99) eX10_layMeasures_92 rfl (by omega) (fun c_92 => ?_) (fun c_92 => ?_)
                  · refine V_iconst eX10_layMeasures_99 ?_
                    refine V_istore_n eX10_layMeasures_100 rfl (Nat.le_of_ble_eq_true rfl) rfl (eb_sS (eb_sS eb_s0)) ?_
                    refine V_iinc eX10_layMeasures_101 rfl rfl (eb_sS (eb_sS (eb_sS eb_s0))) ?_
                    refine V_goto (tgt := 51) eX10_layMeasures_104 rfl ?_
                    exact nx _ (by omega) (by rw [if_neg]; rw [y, Bool.true_and]; exact y2)
                  · exact absurd c_92 w2
          · rw [if_neg y] at hv
            subst hv
            refine V_iload_n eX10_layMeasures_51 rfl rfl ?_
            refine V_aload_n eX10_layMeasures_52 rfl rfl ?_
            refine V_getf eX10_layMeasures_53 H_this rfl ?_
            show eb_V _ _ 56 _ [.int (eb_I (c2 19)), _] _ _ _
            rw [k5, h19]
            refine V_icmp_ge (tgt := 107) eX10_layMeasures_56 rfl (by omega) (fun c_56 => ?_) (fun c_56 => ?_)
            · exact absurd c_56 (by omega)
            · refine V_iload_n eX10_layMeasures_59 rfl rfl ?_
              refine V_if_eq (tgt := 99) eX10_layMeasures_60 rfl (by omega) (fun c_60 => ?_) (fun c_60 => ?_)
              · refine V_iconst eX10_layMeasures_99 ?_
                refine V_istore_n eX10_layMeasures_100 rfl (Nat.le_of_ble_eq_true rfl) rfl (eb_sS (eb_sS eb_s0)) ?_
                refine V_iinc eX10_layMeasures_101 rfl rfl (eb_sS (eb_sS (eb_sS eb_s0))) ?_
                refine V_goto (tgt := 51) eX10_layMeasures_104 rfl ?_
                exact nx _ (by omega) (by rw [if_neg]; intro z; rw [Bool.and_eq_true] at z; exact y z.1)
              · exact absurd rfl c_60
      refine V_iload_n eX10_layMeasures_21 rfl rfl ?_
      refine V_sipush eX10_layMeasures_22 (by decide) ?_
      refine V_icmp_gt (tgt := 177) eX10_layMeasures_25 rfl (by omega) (fun c_25 => ?_) (fun c_25 => ?_)
      · exact absurd c_25 (by omega)
      · refine V_aload_n eX10_layMeasures_28 rfl rfl ?_
        refine V_iload_n eX10_layMeasures_29 rfl rfl ?_
        refine V_cvg eX10_layMeasures_30 (TB) B1 rfl rfl (Nat.le_of_ble_eq_true rfl) ⟨rfl, rfl⟩ ⟨Nat.zero_le _, Nat.zero_le _⟩ (fun h3 ⟨HM3, hfr3⟩ => ?_)
        refine V_aload_n eX10_layMeasures_33 rfl rfl ?_
        refine V_cvg eX10_layMeasures_34 (TR h3 hfr3 HM3) ((hfr3 67 (by omega)).trans B1) rfl rfl (Nat.le_of_ble_eq_true rfl) ⟨rfl, rfl⟩ ⟨Nat.zero_le _, Nat.zero_le _⟩ (fun h4 ⟨⟨HT4, HB4⟩, hfr4⟩ => ?_)
        show eb_V _ _ 37 _ [] _ _ _
        have H_this := HT4
        have H_this_beginsBy : h4 82 = eb_la 201 bb := (hfr4 82 (by omega) (by omega)).trans ((hfr3 82 (by omega)).trans B3)
        refine V_aload_n eX10_layMeasures_37 rfl rfl ?_
        refine V_getf eX10_layMeasures_38 H_this rfl ?_
        refine V_iload_n eX10_layMeasures_41 rfl rfl ?_
        refine V_aload_n eX10_layMeasures_42 rfl rfl ?_
        refine V_cvi eX10_layMeasures_43 (c_X10_beginSet (n := n) (h := h4) (c := eb_set c2 16 ((lt_B (TXq T m)).length : Int)) HT4 rfl HB4 b1 b2) H_this rfl rfl (Nat.le_of_ble_eq_true rfl) ⟨rfl, rfl⟩ ⟨Nat.zero_le _, Nat.zero_le _⟩ ?_
        refine V_last eX10_layMeasures_46 H_this_beginsBy (by omega) ?_
        refine V_iconst eX10_layMeasures_47 ?_
        refine V_istore_n eX10_layMeasures_48 rfl (Nat.le_of_ble_eq_true rfl) rfl (eb_sS (eb_sS eb_s0)) ?_
        refine V_iconst eX10_layMeasures_49 ?_
        refine V_istore_n eX10_layMeasures_50 rfl (Nat.le_of_ble_eq_true rfl) rfl (eb_sS (eb_sS (eb_sS eb_s0))) ?_
        obtain ⟨be4, HB4, -⟩ := HB4
        exact inner _ ((lt_B (TXq T m)).length : Int) be4 _ (eb_up_n (by omega) H_this) eb_up_s (fun x x1 x2 => by
          unfold eb_set
          by_cases y : x = m
          · rw [if_pos (by omega), y]
          · rw [if_neg (by omega)]
            exact (B5 x x1 (by omega)).1) (eb_up_n (by omega) ((hfr4 83 (by omega) (by omega)).trans ((hfr3 83 (by omega)).trans B4))) (HM3.any.kept (fun k x y => eb_up_n (by omega) (hfr4 k (by omega) (by omega)))) (eb_up_n (by omega) HB4) (fun k z1 z2 z3 z4 => eb_up_n z3 ((hfr4 k z2 (by omega)).trans ((hfr3 k (by omega)).trans (B8 k z1 z2 z3 z4)))) sees.length 0 1 (by omega) rfl
  refine V_aload_n eX10_layMeasures_0 rfl rfl ?_
  refine V_cvg eX10_layMeasures_1 (TW) H_this rfl rfl (Nat.le_of_ble_eq_true rfl) ⟨rfl, rfl⟩ ⟨Nat.zero_le _, Nat.zero_le _⟩ (fun h1 ⟨⟨wd1, HW1, hwd1⟩, hfr1⟩ => ?_)
  show eb_V _ _ 4 _ [] _ _ _
  have H_this : h1 67 = mo c := (hfr1 67 (by omega)).trans H_this
  refine V_aload_n eX10_layMeasures_4 rfl rfl ?_
  refine V_iconst eX10_layMeasures_5 ?_
  refine V_putf eX10_layMeasures_6 H_this eb_fitI (eb_sS (eb_sS (eb_sS (eb_sS (eb_sS (eb_sS (eb_sS (eb_sS (eb_sS (eb_sS (eb_sS (eb_sS (eb_sS (eb_sS (eb_sS (eb_sS (eb_sS (eb_sS (eb_sS (eb_sS (eb_sS (eb_sS (eb_sS (eb_sS eb_s0)))))))))))))))))))))))) (Nat.le_of_ble_eq_true rfl) ?_
  show eb_V _ _ 9 _ _ _ (eb_up _ 67 (mo (eb_set c 24 0))) _
  refine V_aload_n eX10_layMeasures_9 rfl rfl ?_
  refine V_iconst eX10_layMeasures_10 ?_
  refine V_putf eX10_layMeasures_11 eb_up_s eb_fitI (eb_sS (eb_sS (eb_sS (eb_sS (eb_sS (eb_sS (eb_sS (eb_sS (eb_sS (eb_sS (eb_sS (eb_sS (eb_sS (eb_sS (eb_sS (eb_sS (eb_sS (eb_sS (eb_sS (eb_sS (eb_sS (eb_sS (eb_sS (eb_sS (eb_sS eb_s0))))))))))))))))))))))))) (Nat.le_of_ble_eq_true rfl) ?_
  show eb_V _ _ 14 _ _ _ (eb_up _ 67 (mo (eb_set (eb_set c 24 0) 25 (-1)))) _
  refine V_aload_n eX10_layMeasures_14 rfl rfl ?_
  refine V_iconst eX10_layMeasures_15 ?_
  refine V_putf eX10_layMeasures_16 eb_up_s eb_fitI (eb_sS (eb_sS (eb_sS (eb_sS (eb_sS (eb_sS (eb_sS (eb_sS (eb_sS (eb_sS (eb_sS (eb_sS (eb_sS (eb_sS (eb_sS (eb_sS (eb_sS (eb_sS (eb_sS (eb_sS (eb_sS (eb_sS (eb_sS (eb_sS (eb_sS (eb_sS eb_s0)))))))))))))))))))))))))) (Nat.le_of_ble_eq_true rfl) ?_
  show eb_V _ _ 19 _ _ _ (eb_up _ 67 (mo (eb_set (eb_set (eb_set c 24 0) 25 (-1)) 26 (-1)))) _
  refine V_iconst eX10_layMeasures_19 ?_
  refine V_istore_n eX10_layMeasures_20 rfl (Nat.le_of_ble_eq_true rfl) rfl (eb_sS eb_s0) ?_
  refine main _ h1 wd1 ((hfr1 68 (by omega)).trans H_this_st) ((hfr1 80 (by omega)).trans H_se) HW1 hwd1 (fun h2 c2 bb ib be a1 a2 a3 a4 a5 a6 a7 a8 => ⟨⟨⟨c2, bb, ib, a1, a2, a3, a4, a5⟩, a6, ⟨wd1, (a8 73 (by omega) (by omega) (by omega) (by omega)).trans HW1⟩, be, a7⟩, fun k z1 z2 z3 z4 => (a8 k (by omega) z2 z3 z4).trans (hfr1 k (by omega))⟩) 200 1 _ (eb_set (eb_set (eb_set c 24 0) 25 (-1)) 26 (-1)) b0 i0 be _ _ (by omega) (by omega) eb_up_s ⟨⟨rfl, rfl, rfl, rfl, rfl, rfl⟩, rfl, Or.inl ⟨rfl, fun x hx => by omega⟩, Or.inl ⟨rfl, fun x hx => by omega⟩⟩ (eb_up_n (by omega) (eb_up_n (by omega) (eb_up_n (by omega) ((hfr1 82 (by omega)).trans H_bb)))) (eb_up_n (by omega) (eb_up_n (by omega) (eb_up_n (by omega) ((hfr1 83 (by omega)).trans H_ib)))) (fun x x1 x2 => by omega) (HM.kept (fun k x y => eb_up_n (by omega) (eb_up_n (by omega) (eb_up_n (by omega) (hfr1 k (by omega)))))) (eb_up_n (by omega) (eb_up_n (by omega) (eb_up_n (by omega) ((hfr1 78 (by omega)).trans H_be)))) (fun k z1 z2 z3 z4 => eb_up_n z2 (eb_up_n z2 (eb_up_n z2 rfl)))
end M7
