/-! rivers -/
def sm (g : Nat → Int) (lo : Nat) : Nat → Int
  | 0 => 0
  | d + 1 => sm g lo d + g (lo + d)
theorem sm_congr {g g' : Nat → Int} {lo d : Nat} (h : ∀ v, lo ≤ v → v < lo + d → g v = g' v) : sm g lo d = sm g' lo d := by
  induction d with
  | zero => rfl
  | succ d ih =>
    simp only [sm]
    rw [ih (fun v h1 h2 => h v h1 (by omega)), h (lo + d) (by omega) (by omega)]
theorem sm_zero {g : Nat → Int} {lo d : Nat} (h : ∀ v, lo ≤ v → v < lo + d → g v = 0) : sm g lo d = 0 := by
  induction d with
  | zero => rfl
  | succ d ih =>
    simp only [sm]
    rw [ih (fun v h1 h2 => h v h1 (by omega)), h (lo + d) (by omega) (by omega)]
    rfl
theorem sm_one {g : Nat → Int} {lo d e : Nat} (h1 : lo ≤ e) (h2 : e < lo + d) (h3 : g e = 1) (h : ∀ v, lo ≤ v → v < lo + d → v ≠ e → g v = 0) : sm g lo d = 1 := by
  induction d with
  | zero => omega
  | succ d ih =>
    simp only [sm]
    rcases Nat.lt_or_ge e (lo + d) with z | z
    · rw [ih z (fun v a b => h v a (by omega)), h (lo + d) (by omega) (by omega) (by omega)]
      rfl
    · have : e = lo + d := by omega
      subst this
      rw [sm_zero (fun v a b => h v a (by omega) (by omega)), h3]
      rfl
theorem sm_r {g : Nat → Int} {lo d : Nat} {m : Int} (h : ∀ v, lo ≤ v → v < lo + d → 0 ≤ g v ∧ g v ≤ m) : 0 ≤ sm g lo d ∧ sm g lo d ≤ m * d := by
  induction d with
  | zero => simp [sm]
  | succ d ih =>
    have a := ih (fun v h1 h2 => h v h1 (by omega))
    have b := h (lo + d) (by omega) (by omega)
    simp only [sm]
    have e : m * ((d + 1 : Nat) : Int) = m * d + m := by
      rw [show ((d + 1 : Nat) : Int) = (d : Int) + 1 by omega, Int.mul_add, Int.mul_one]
    omega
/-- the gaps of the line from lo to hi that lie at x from the left -/
def rv_g (pl : Nat → Int) (lo hi : Nat) (x : Int) : Int := sm (fun v => if pl v - pl lo - 1 = x then 1 else 0) (lo + 1) (hi - lo - 1)
def rv_e (B : List Nat) (N k : Nat) : Nat := if k + 1 < B.length then B.getD (k + 1) 0 else N
def rv_l (pl : Nat → Int) (B : List Nat) (N k : Nat) : Int := sm (fun e => rv_g pl (B.getD (k - 1) 0) (B.getD k 0) (pl e - pl (B.getD k 0) - 1)) (B.getD k 0 + 1) (rv_e B N k - B.getD k 0 - 1)
def rv (pl : Nat → Int) (B : List Nat) (N : Nat) : Int := sm (rv_l pl B N) 1 (B.length - 1)
theorem rv_g_01 {wf : Nat → Int} {N lo hi : Nat} (hw : lt_wok N wf) (hh : hi ≤ N) (x : Int) : (∀ v, lo < v → v < hi → ¬ lt_pl wf v - lt_pl wf lo - 1 = x) → rv_g (lt_pl wf) lo hi x = 0 := fun h =>
  sm_zero (fun v a b => if_neg (h v (by omega) (by omega)))
theorem rv_g_1 {wf : Nat → Int} {N lo hi e : Nat} (hw : lt_wok N wf) (hh : hi ≤ N) {x : Int} (h1 : lo < e) (h2 : e < hi) (he : lt_pl wf e - lt_pl wf lo - 1 = x) : rv_g (lt_pl wf) lo hi x = 1 :=
  sm_one (e := e) (by omega) (by omega) (if_pos he) (fun v a b c => if_neg (fun q => by
    rcases Nat.lt_trichotomy v e with z | z | z
    · have := lt_pl_mono hw (Nat.le_of_lt z) (by omega)
      omega
    · exact c z
    · have := lt_pl_mono hw (Nat.le_of_lt z) (by omega)
      omega))
theorem rv_g_r (pl : Nat → Int) (lo hi : Nat) (x : Int) : 0 ≤ rv_g pl lo hi x ∧ rv_g pl lo hi x ≤ ((hi - lo - 1 : Nat) : Int) := by
  have := sm_r (g := fun v => if pl v - pl lo - 1 = x then 1 else 0) (lo := lo + 1) (d := hi - lo - 1) (m := 1) (fun v _ _ => by split <;> omega)
  unfold rv_g
  omega
/-- a rising list's places -/
theorem B_at {B : List Nat} {N : Nat} (h1 : ∀ x ∈ B, x < N) (h2 : B.Pairwise (· < ·)) {k : Nat} (hk : k < B.length) : B.getD k 0 < N ∧ B.getD k 0 < rv_e B N k ∧ rv_e B N k ≤ N := by
  have e1 : B.getD k 0 = B[k] := by simp [hk]
  have a := h1 B[k] (List.getElem_mem hk)
  rw [e1]
  unfold rv_e
  by_cases c : k + 1 < B.length
  · rw [if_pos c]
    have e2 : B.getD (k + 1) 0 = B[k + 1] := by simp [c]
    have b := List.pairwise_iff_getElem.mp h2 k (k + 1) hk c (by omega)
    have d := h1 B[k + 1] (List.getElem_mem c)
    rw [e2]
    omega
  · rw [if_neg c]
    omega
section LYR
variable {n : Nat} {h : eb_H} {b rt N bg : Nat} {me law fee fr lines : Int} {pl to ow lb ro : Nat → Int} {wf : Nat → Int} {B : List Nat}
theorem c_X3_bO {k : Nat} (HL : ly_at h b rt N me law fee fr (B.length : Int) bg pl to ow lb ro) (hB : B.length ≤ 40) (hlb : ∀ k (hk : k < B.length), lb k = (B[k] : Int)) (hk : k < B.length) : eb_T mX3_beginOf [.ref b, .int (eb_I (k : Int))] n h (eb_X (some (.int (eb_I (B.getD k 0 : Nat)))) n h) := by
  have T := c_X3_beginOf (n := n) (k := (k : Int)) HL hB (by omega)
  rw [if_pos (by omega), Int.toNat_natCast, hlb k hk] at T
  rw [show B.getD k 0 = B[k] by simp [hk]]
  exact T
theorem c_X3_eO {k : Nat} (HL : ly_at h b rt N me law fee fr (B.length : Int) bg pl to ow lb ro) (hB : B.length ≤ 40) (hN : N ≤ 40) (hlb : ∀ k (hk : k < B.length), lb k = (B[k] : Int)) (hk : k < B.length) : eb_T mX3_endOf [.ref b, .int (eb_I (k : Int))] n h (eb_X (some (.int (eb_I (rv_e B N k : Nat)))) n h) := by
  have T := c_X3_endOf (n := n) (k := k) HL hB hN (by omega)
  unfold rv_e
  by_cases c : k + 1 < B.length
  · rw [if_pos c, hlb (k + 1) c] at T
    rw [if_pos c, show B.getD (k + 1) 0 = B[k + 1] by simp [c]]
    exact T
  · rw [if_neg c] at T
    rw [if_neg c]
    exact T
theorem c_X3_hasGapAt {k : Nat} {x : Int} (HL : ly_at h b rt N me law fee fr (B.length : Int) bg pl to ow lb ro) (hN : N ≤ 40) (hwk : lt_wok N wf) (hpl : ∀ k, k ≤ N → pl k = lt_pl wf k) (hB1 : ∀ x ∈ B, x < N) (hB2 : B.Pairwise (· < ·)) (hlb : ∀ k (hk : k < B.length), lb k = (B[k] : Int)) (hk : k < B.length) (hx : -2147483648 ≤ x ∧ x ≤ 2147483647) :
    eb_T mX3_hasGapAt [.ref b, .int (eb_I (k : Int)), .int (eb_I x)] n h (eb_X (some (.int (eb_I (rv_g (lt_pl wf) (B.getD k 0) (rv_e B N k) x)))) n h) := by
  refine eb_T.of (by decide +kernel) (Nat.le_of_ble_eq_true rfl) ?_
  show eb_V _ _ 0 [.ref b, .int (eb_I (k : Int)), .int (eb_I x), eb_no, eb_no] [] (n, 0, 0) h _
  have HL' := HL
  obtain ⟨H_this, H_this_place, H_this_total, H_this_owner, H_this_lineBegin, H_this_row, H_this_roots⟩ := HL
  have hlen := br_len hB1 hB2
  obtain ⟨f1, f2, f3⟩ := B_at hB1 hB2 hk
  have Tb := c_X3_bO (n := n) HL' (by omega) hlb hk
  have Te := c_X3_eO (n := n) HL' (by omega) hN hlb hk
  generalize B.getD k 0 = lo at f1 f2 Tb ⊢
  generalize rv_e B N k = hi at f2 f3 Te ⊢
  have loop : ∀ (d e : Nat), lo < e → e + d = hi → (∀ v, lo < v → v < e → ¬ lt_pl wf v - lt_pl wf lo - 1 = x) → eb_V mX3_hasGapAt (fun _ _ _ => True) 11 [.ref b, .int (eb_I (k : Int)), .int (eb_I x), .int (eb_I (lo : Int)), .int (eb_I (e : Int))] [] (n, 0, 0) h (eb_R mX3_hasGapAt (eb_X (some (.int (eb_I (rv_g (lt_pl wf) lo hi x)))) n h)) := by
    intro d
    induction d with
    | zero =>
      intro e h1 h2 g
      have : e = hi := by omega
      subst this
      rw [rv_g_01 hwk f3 x g]
      refine V_iload eX3_hasGapAt_11 rfl ?_
      refine V_aload_n eX3_hasGapAt_13 rfl rfl ?_
      refine V_iload_n eX3_hasGapAt_14 rfl rfl ?_
      refine V_cvi eX3_hasGapAt_15 (Te) H_this rfl rfl (Nat.le_of_ble_eq_true rfl) ⟨rfl, rfl⟩ ⟨Nat.zero_le _, Nat.zero_le _⟩ ?_
      refine V_icmp_ge (tgt := 40) eX3_hasGapAt_18 rfl (by omega) (fun c_18 => ?_) (fun c_18 => ?_)
      · refine V_iconst eX3_hasGapAt_40 ?_
        exact V_iret eX3_hasGapAt_41 ⟨Nat.zero_le _, Nat.zero_le _⟩ rfl (rfl) (⟨rfl, rfl, rfl⟩)
      · exact absurd (by omega) c_18
    | succ d ih =>
      intro e h1 h2 g
      have e1 := hpl e (by omega)
      have e2 := hpl lo (by omega)
      have r1 := lt_pl_r hwk e (by omega)
      have r2 := lt_pl_r hwk lo (by omega)
      have hv : lt_pl wf e - lt_pl wf lo - 1 = x → rv_g (lt_pl wf) lo hi x = 1 := fun q => rv_g_1 hwk f3 h1 (by omega) q
      refine V_iload eX3_hasGapAt_11 rfl ?_
      refine V_aload_n eX3_hasGapAt_13 rfl rfl ?_
      refine V_iload_n eX3_hasGapAt_14 rfl rfl ?_
      refine V_cvi eX3_hasGapAt_15 (Te) H_this rfl rfl (Nat.le_of_ble_eq_true rfl) ⟨rfl, rfl⟩ ⟨Nat.zero_le _, Nat.zero_le _⟩ ?_
      refine V_icmp_ge (tgt := 40) eX3_hasGapAt_18 rfl (by omega) (fun c_18 => ?_) (fun c_18 => ?_)
      · exact absurd c_18 (by omega)
      · refine V_aload_n eX3_hasGapAt_21 rfl rfl ?_
        refine V_iload_n eX3_hasGapAt_22 rfl rfl ?_
        refine V_iload eX3_hasGapAt_23 rfl ?_
        refine V_cvi eX3_hasGapAt_25 (c_X3_widthOf HL' (by omega) (by omega)) H_this rfl rfl (Nat.le_of_ble_eq_true rfl) ⟨rfl, rfl⟩ ⟨Nat.zero_le _, Nat.zero_le _⟩ ?_
        rw [e1, e2]
        refine V_iload_n eX3_hasGapAt_28 rfl rfl ?_
        refine V_icmp_ne (tgt := 34) eX3_hasGapAt_29 rfl (by omega) (fun c_29 => ?_) (fun c_29 => ?_)
        · refine V_iinc eX3_hasGapAt_34 rfl rfl (eb_sS (eb_sS (eb_sS (eb_sS eb_s0)))) ?_
          refine V_goto (tgt := 11) eX3_hasGapAt_37 rfl ?_
          exact ih (e + 1) (by omega) (by omega) (fun v a c => by
            rcases Nat.lt_or_ge v e with z | z
            · exact g v a z
            · have : v = e := by omega
              subst this
              exact c_29)
        · rw [hv c_29]
          refine V_iconst eX3_hasGapAt_32 ?_
          exact V_iret eX3_hasGapAt_33 ⟨Nat.zero_le _, Nat.zero_le _⟩ rfl (rfl) (⟨rfl, rfl, rfl⟩)
  refine V_aload_n eX3_hasGapAt_0 rfl rfl ?_
  refine V_iload_n eX3_hasGapAt_1 rfl rfl ?_
  refine V_cvi eX3_hasGapAt_2 (Tb) H_this rfl rfl (Nat.le_of_ble_eq_true rfl) ⟨rfl, rfl⟩ ⟨Nat.zero_le _, Nat.zero_le _⟩ ?_
  refine V_istore_n eX3_hasGapAt_5 rfl (Nat.le_of_ble_eq_true rfl) rfl (eb_sS (eb_sS (eb_sS eb_s0))) ?_
  refine V_iload_n eX3_hasGapAt_6 rfl rfl ?_
  refine V_iconst eX3_hasGapAt_7 ?_
  refine V_iadd eX3_hasGapAt_8 ?_
  refine V_istore eX3_hasGapAt_9 (Nat.le_of_ble_eq_true rfl) rfl (eb_sS (eb_sS (eb_sS (eb_sS eb_s0)))) ?_
  exact loop (hi - (lo + 1)) (lo + 1) (by omega) (by omega) (fun v a c => absurd c (by omega))
theorem c_X3_rivers (HL : ly_at h b rt N me law fee fr (B.length : Int) bg pl to ow lb ro) (hN : N ≤ 40) (hwk : lt_wok N wf) (hpl : ∀ k, k ≤ N → pl k = lt_pl wf k) (hB1 : ∀ x ∈ B, x < N) (hB2 : B.Pairwise (· < ·)) (hlb : ∀ k (hk : k < B.length), lb k = (B[k] : Int)) :
    eb_T mX3_rivers [.ref b] n h (eb_X (some (.int (eb_I (rv (lt_pl wf) B N)))) n h) := by
  refine eb_T.of (by decide +kernel) (Nat.le_of_ble_eq_true rfl) ?_
  show eb_V _ _ 0 [.ref b, eb_no, eb_no, eb_no, eb_no] [] (n, 0, 0) h _
  have HL' := HL
  obtain ⟨H_this, H_this_place, H_this_total, H_this_owner, H_this_lineBegin, H_this_row, H_this_roots⟩ := HL
  have hlen := br_len hB1 hB2
  have gr : ∀ k, 1 ≤ k → k < B.length → ∀ e, B.getD k 0 < e → e < rv_e B N k → 0 ≤ rv_g (lt_pl wf) (B.getD (k - 1) 0) (B.getD k 0) (lt_pl wf e - lt_pl wf (B.getD k 0) - 1) ∧ rv_g (lt_pl wf) (B.getD (k - 1) 0) (B.getD k 0) (lt_pl wf e - lt_pl wf (B.getD k 0) - 1) ≤ 40 := fun k k1 k2 e e1 e2 => by
    have a := rv_g_r (lt_pl wf) (B.getD (k - 1) 0) (B.getD k 0) (lt_pl wf e - lt_pl wf (B.getD k 0) - 1)
    have b2 := (B_at hB1 hB2 k2).1
    omega
  have lr : ∀ k, 1 ≤ k → k < B.length → 0 ≤ rv_l (lt_pl wf) B N k ∧ rv_l (lt_pl wf) B N k ≤ 1600 := fun k k1 k2 => by
    have a := sm_r (g := fun e => rv_g (lt_pl wf) (B.getD (k - 1) 0) (B.getD k 0) (lt_pl wf e - lt_pl wf (B.getD k 0) - 1)) (lo := B.getD k 0 + 1) (d := rv_e B N k - B.getD k 0 - 1) (m := 40) (fun v v1 v2 => gr k k1 k2 v (by omega) (by omega))
    have b2 := (B_at hB1 hB2 k2)
    unfold rv_l
    omega
  have sr : ∀ d, d ≤ B.length - 1 → 0 ≤ sm (rv_l (lt_pl wf) B N) 1 d ∧ sm (rv_l (lt_pl wf) B N) 1 d ≤ 64000 := fun d hd => by
    have a := sm_r (g := rv_l (lt_pl wf) B N) (lo := 1) (d := d) (m := 1600) (fun v v1 v2 => lr v v1 (by omega))
    omega
  have outer : ∀ (d k : Nat) (x3 x4 : Value), 1 ≤ k → k + d = max B.length 1 → eb_V mX3_rivers (fun _ _ _ => True) 4 [.ref b, .int (eb_I (sm (rv_l (lt_pl wf) B N) 1 (k - 1))), .int (eb_I (k : Int)), x3, x4] [] (n, 0, 0) h (eb_R mX3_rivers (eb_X (some (.int (eb_I (rv (lt_pl wf) B N)))) n h)) := by
    intro d
    induction d with
    | zero =>
      intro k x3 x4 hk hkd
      have e0 : sm (rv_l (lt_pl wf) B N) 1 (k - 1) = rv (lt_pl wf) B N := by unfold rv; rw [show k - 1 = B.length - 1 by omega]
      rw [e0]
      refine V_iload_n eX3_rivers_4 rfl rfl ?_
      refine V_aload_n eX3_rivers_5 rfl rfl ?_
      refine V_getf eX3_rivers_6 H_this rfl ?_
      refine V_icmp_ge (tgt := 65) eX3_rivers_9 rfl (by omega) (fun c_9 => ?_) (fun c_9 => ?_)
      · refine V_iload_n eX3_rivers_65 rfl rfl ?_
        exact V_iret eX3_rivers_66 ⟨Nat.zero_le _, Nat.zero_le _⟩ rfl (rfl) (⟨rfl, rfl, rfl⟩)
      · exact absurd (by omega) c_9
    | succ d ih =>
      intro k x3 x4 hk hkd
      have hkB : k < B.length := by omega
      obtain ⟨f1, f2, f3⟩ := B_at hB1 hB2 hkB
      have f4 := B_at hB1 hB2 (show k - 1 < B.length by omega)
      have hprev : rv_e B N (k - 1) = B.getD k 0 := by unfold rv_e; rw [if_pos (by omega), show k - 1 + 1 = k by omega]
      have Tb := c_X3_bO (n := n) HL' (by omega) hlb hkB
      have Te := c_X3_eO (n := n) HL' (by omega) hN hlb hkB
      have sk := sr (k - 1) (by omega)
      have hsk : sm (rv_l (lt_pl wf) B N) 1 k = sm (rv_l (lt_pl wf) B N) 1 (k - 1) + rv_l (lt_pl wf) B N k := by
        obtain ⟨m, rfl⟩ : ∃ m, k = m + 1 := ⟨k - 1, by omega⟩
        show sm (rv_l (lt_pl wf) B N) 1 m + rv_l (lt_pl wf) B N (1 + m) = _
        rw [Nat.add_sub_cancel, Nat.add_comm 1 m]
      have inner : ∀ (d2 i : Nat), B.getD k 0 + 1 + i + d2 = rv_e B N k → eb_V mX3_rivers (fun _ _ _ => True) 23 [.ref b, .int (eb_I (sm (rv_l (lt_pl wf) B N) 1 (k - 1) + sm (fun e => rv_g (lt_pl wf) (B.getD (k - 1) 0) (B.getD k 0) (lt_pl wf e - lt_pl wf (B.getD k 0) - 1)) (B.getD k 0 + 1) i)), .int (eb_I (k : Int)), .int (eb_I (B.getD k 0 : Nat)), .int (eb_I ((B.getD k 0 + 1 + i : Nat) : Int))] [] (n, 0, 0) h (eb_R mX3_rivers (eb_X (some (.int (eb_I (rv (lt_pl wf) B N)))) n h)) := by
        intro d2
        induction d2 with
        | zero =>
          intro i hi
          have e0 : sm (rv_l (lt_pl wf) B N) 1 (k - 1) + sm (fun e => rv_g (lt_pl wf) (B.getD (k - 1) 0) (B.getD k 0) (lt_pl wf e - lt_pl wf (B.getD k 0) - 1)) (B.getD k 0 + 1) i = sm (rv_l (lt_pl wf) B N) 1 (k + 1 - 1) := by
            rw [Nat.add_sub_cancel, hsk]
            unfold rv_l
            rw [show rv_e B N k - B.getD k 0 - 1 = i by omega]
          rw [e0]
          refine V_iload eX3_rivers_23 rfl ?_
          refine V_aload_n eX3_rivers_25 rfl rfl ?_
          refine V_iload_n eX3_rivers_26 rfl rfl ?_
          refine V_cvi eX3_rivers_27 (Te) H_this rfl rfl (Nat.le_of_ble_eq_true rfl) ⟨rfl, rfl⟩ ⟨Nat.zero_le _, Nat.zero_le _⟩ ?_
          refine V_icmp_ge (tgt := 59) eX3_rivers_30 rfl (by omega) (fun c_30 => ?_) (fun c_30 => ?_)
          · refine V_iinc eX3_rivers_59 rfl rfl (eb_sS (eb_sS eb_s0)) ?_
            refine V_goto (tgt := 4) eX3_rivers_62 rfl ?_
            exact ih (k + 1) _ _ (by omega) (by omega)
          · exact absurd (by omega) c_30
        | succ d2 ih2 =>
          intro i hi
          generalize hlo : B.getD k 0 = lo at *
          have e1 := hpl (lo + 1 + i) (by omega)
          have e2 := hpl lo (by omega)
          have r1 := lt_pl_r hwk (lo + 1 + i) (by omega)
          have r2 := lt_pl_r hwk lo (by omega)
          have Tg := c_X3_hasGapAt (n := n) (k := k - 1) (x := lt_pl wf (lo + 1 + i) - lt_pl wf lo - 1) HL' hN hwk hpl hB1 hB2 hlb (by omega) (by omega)
          rw [hprev] at Tg
          have g01 : rv_g (lt_pl wf) (B.getD (k - 1) 0) lo (lt_pl wf (lo + 1 + i) - lt_pl wf lo - 1) = 0 ∨ rv_g (lt_pl wf) (B.getD (k - 1) 0) lo (lt_pl wf (lo + 1 + i) - lt_pl wf lo - 1) = 1 := by
            by_cases c : ∃ v, B.getD (k - 1) 0 < v ∧ v < lo ∧ lt_pl wf v - lt_pl wf (B.getD (k - 1) 0) - 1 = lt_pl wf (lo + 1 + i) - lt_pl wf lo - 1
            · obtain ⟨v, v1, v2, v3⟩ := c
              exact Or.inr (rv_g_1 hwk (by omega) v1 v2 v3)
            · exact Or.inl (rv_g_01 hwk (show lo ≤ N by omega) _ (fun v v1 v2 v3 => c ⟨v, v1, v2, v3⟩))
          have ss : sm (fun e => rv_g (lt_pl wf) (B.getD (k - 1) 0) lo (lt_pl wf e - lt_pl wf lo - 1)) (lo + 1) (i + 1) = sm (fun e => rv_g (lt_pl wf) (B.getD (k - 1) 0) lo (lt_pl wf e - lt_pl wf lo - 1)) (lo + 1) i + rv_g (lt_pl wf) (B.getD (k - 1) 0) lo (lt_pl wf (lo + 1 + i) - lt_pl wf lo - 1) := rfl
          have ih3 := ih2 (i + 1) (by omega)
          have J : ∀ x1 : Int, x1 = sm (rv_l (lt_pl wf) B N) 1 (k - 1) + sm (fun e => rv_g (lt_pl wf) (B.getD (k - 1) 0) lo (lt_pl wf e - lt_pl wf lo - 1)) (lo + 1) (i + 1) → eb_V mX3_rivers (fun _ _ _ => True) 53 [.ref b, .int (eb_I x1), .int (eb_I (k : Int)), .int (eb_I (lo : Nat)), .int (eb_I ((lo + 1 + i : Nat) : Int))] [] (n, 0, 0) h (eb_R mX3_rivers (eb_X (some (.int (eb_I (rv (lt_pl wf) B N)))) n h)) := by
            intro x1 hx1
            subst hx1
            refine V_iinc eX3_rivers_53 rfl rfl (eb_sS (eb_sS (eb_sS (eb_sS eb_s0)))) ?_
            refine V_goto (tgt := 23) eX3_rivers_56 rfl ?_
            exact ih3
          refine V_iload eX3_rivers_23 rfl ?_
          refine V_aload_n eX3_rivers_25 rfl rfl ?_
          refine V_iload_n eX3_rivers_26 rfl rfl ?_
          refine V_cvi eX3_rivers_27 (Te) H_this rfl rfl (Nat.le_of_ble_eq_true rfl) ⟨rfl, rfl⟩ ⟨Nat.zero_le _, Nat.zero_le _⟩ ?_
          refine V_icmp_ge (tgt := 59) eX3_rivers_30 rfl (by omega) (fun c_30 => ?_) (fun c_30 => ?_)
          · exact absurd c_30 (by omega)
          · refine V_aload_n eX3_rivers_33 rfl rfl ?_
            refine V_iload_n eX3_rivers_34 rfl rfl ?_
            refine V_iconst eX3_rivers_35 ?_
            refine V_isub eX3_rivers_36 ?_
            refine V_eqI (b := ((k - 1 : Nat) : Int)) (by omega) ?_
            refine V_aload_n eX3_rivers_37 rfl rfl ?_
            refine V_iload_n eX3_rivers_38 rfl rfl ?_
            refine V_iload eX3_rivers_39 rfl ?_
            refine V_cvi eX3_rivers_41 (c_X3_widthOf HL' (by omega) (by omega)) H_this rfl rfl (Nat.le_of_ble_eq_true rfl) ⟨rfl, rfl⟩ ⟨Nat.zero_le _, Nat.zero_le _⟩ ?_
            rw [e1, e2]
            refine V_cvi eX3_rivers_44 (Tg) H_this rfl rfl (Nat.le_of_ble_eq_true rfl) ⟨rfl, rfl⟩ ⟨Nat.zero_le _, Nat.zero_le _⟩ ?_
            refine V_if_eq (tgt := 53) eX3_rivers_47 rfl (by omega) (fun c_47 => ?_) (fun c_47 => ?_)
            · exact J _ (by rw [ss, c_47, Int.add_zero])
            · refine V_iinc eX3_rivers_50 rfl rfl (eb_sS eb_s0) ?_
              exact J _ (by rw [ss]; rcases g01 with q | q <;> omega)
      refine V_iload_n eX3_rivers_4 rfl rfl ?_
      refine V_aload_n eX3_rivers_5 rfl rfl ?_
      refine V_getf eX3_rivers_6 H_this rfl ?_
      refine V_icmp_ge (tgt := 65) eX3_rivers_9 rfl (by omega) (fun c_9 => ?_) (fun c_9 => ?_)
      · exact absurd c_9 (by omega)
      · refine V_aload_n eX3_rivers_12 rfl rfl ?_
        refine V_iload_n eX3_rivers_13 rfl rfl ?_
        refine V_cvi eX3_rivers_14 (Tb) H_this rfl rfl (Nat.le_of_ble_eq_true rfl) ⟨rfl, rfl⟩ ⟨Nat.zero_le _, Nat.zero_le _⟩ ?_
        refine V_istore_n eX3_rivers_17 rfl (Nat.le_of_ble_eq_true rfl) rfl (eb_sS (eb_sS (eb_sS eb_s0))) ?_
        refine V_iload_n eX3_rivers_18 rfl rfl ?_
        refine V_iconst eX3_rivers_19 ?_
        refine V_iadd eX3_rivers_20 ?_
        refine V_istore eX3_rivers_21 (Nat.le_of_ble_eq_true rfl) rfl (eb_sS (eb_sS (eb_sS (eb_sS eb_s0)))) ?_
        have := inner (rv_e B N k - (B.getD k 0 + 1)) 0 (by omega)
        simp only [sm, Int.add_zero] at this
        exact this
  refine V_iconst eX3_rivers_0 ?_
  refine V_istore_n eX3_rivers_1 rfl (Nat.le_of_ble_eq_true rfl) rfl (eb_sS eb_s0) ?_
  refine V_iconst eX3_rivers_2 ?_
  refine V_istore_n eX3_rivers_3 rfl (Nat.le_of_ble_eq_true rfl) rfl (eb_sS (eb_sS eb_s0)) ?_
  exact outer (max B.length 1 - 1) 1 _ _ (Nat.le_refl _) (by omega)
end LYR
