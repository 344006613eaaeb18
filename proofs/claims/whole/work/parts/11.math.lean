/-! what lines cost -/
def lt_sqF (v : Nat) : Nat → Nat
  | 0 => 0
  | r + 1 => if (r + 1) * (r + 1) ≤ v then r + 1 else lt_sqF v r
def lt_rt (s : Nat) : Int := if s < 200 then (lt_sqF (100 * s) 200 : Nat) else 0
theorem lt_sqF_le (v r : Nat) : lt_sqF v r ≤ r ∧ lt_sqF v r * lt_sqF v r ≤ v := by
  induction r with
  | zero => simp [lt_sqF]
  | succ r ih =>
    unfold lt_sqF
    split
    · rename_i q; exact ⟨Nat.le_refl _, q⟩
    · exact ⟨by omega, ih.2⟩
theorem lt_sqF_gt (v r : Nat) (x : Nat) (h1 : x ≤ r) (h2 : x * x ≤ v) : x ≤ lt_sqF v r := by
  induction r with
  | zero => omega
  | succ r ih =>
    unfold lt_sqF
    split
    · exact h1
    · rename_i q
      rcases Nat.lt_or_ge r x with z | z
      · have : x = r + 1 := by omega
        subst this
        exact absurd h2 q
      · exact ih z
theorem lt_rt_r (s : Nat) : 0 ≤ lt_rt s ∧ lt_rt s ≤ 200 := by
  have := (lt_sqF_le (100 * s) 200).1
  unfold lt_rt
  split <;> omega
/-- the root is the only number between -/
theorem lt_rt_eq {s r : Nat} (hs : s < 200) (h1 : r * r ≤ 100 * s) (h2 : 100 * s < (r + 1) * (r + 1)) (h3 : r ≤ 200) : lt_rt s = (r : Int) := by
  have a := lt_sqF_gt (100 * s) 200 r h3 h1
  have b := (lt_sqF_le (100 * s) 200).2
  unfold lt_rt
  rw [if_pos hs]
  congr 1
  rcases Nat.lt_or_ge r (lt_sqF (100 * s) 200) with q | q
  · have := Nat.mul_le_mul (show r + 1 ≤ lt_sqF (100 * s) 200 from q) (show r + 1 ≤ lt_sqF (100 * s) 200 from q)
    omega
  · omega
def lt_pl (wf : Nat → Int) : Nat → Int
  | 0 => 0
  | k + 1 => lt_pl wf k + wf k + 1
def lt_tight (law over : Int) : Int := if law = 0 then over * over else if law = 2 then 20 * over else if law = 3 then 100 + over else over
def lt_loose (law s : Int) : Int := if law = 0 then s * s else if law = 3 then s / 5 else if law = 4 then lt_rt s.toNat else s
def lt_pr (N : Nat) (law fee fr slack : Int) (j : Nat) : Int := if slack < 0 then fee + lt_tight law (-slack) else if fr = 1 ∧ j = N then fee else fee + lt_loose law slack
def lt_wok (N : Nat) (wf : Nat → Int) : Prop := ∀ k, k < N → 1 ≤ wf k ∧ wf k ≤ 90
theorem lt_pl_r {N : Nat} {wf : Nat → Int} (hw : lt_wok N wf) : ∀ k, k ≤ N → 2 * (k : Int) ≤ lt_pl wf k ∧ lt_pl wf k ≤ 91 * k := by
  intro k
  induction k with
  | zero => intro _; simp [lt_pl]
  | succ k ih =>
    intro hk
    have h1 := ih (by omega)
    have h2 := hw k (by omega)
    simp only [lt_pl]
    omega
theorem lt_pl_mono {N : Nat} {wf : Nat → Int} (hw : lt_wok N wf) {i j : Nat} (hij : i ≤ j) (hj : j ≤ N) : lt_pl wf i + 2 * ((j : Int) - i) ≤ lt_pl wf j := by
  induction j with
  | zero => have : i = 0 := by omega
            subst this; simp
  | succ j ih =>
    rcases Nat.lt_or_ge j i with q | q
    · have : i = j + 1 := by omega
      subst this; simp
    · have h1 := ih q (by omega)
      have h2 := hw j (by omega)
      simp only [lt_pl]
      omega
theorem lt_sq_r {a b : Int} (h : 0 ≤ a ∧ a ≤ b) : 0 ≤ a * a ∧ a * a ≤ b * b := ⟨Int.mul_nonneg h.1 h.1, Int.mul_le_mul h.2 h.2 h.1 (by omega)⟩
theorem lt_tight_r {law over : Int} (h : 0 < over ∧ over ≤ 3700) : 0 < lt_tight law over ∧ lt_tight law over ≤ 13690000 := by
  have h1 := lt_sq_r (a := over) (b := 3700) (by omega)
  have h2 : 0 < over * over := Int.mul_pos h.1 h.1
  unfold lt_tight
  split
  · omega
  · split
    · omega
    · split <;> omega
theorem lt_tight_mono {law a b : Int} (h : 0 < a ∧ a < b ∧ b ≤ 3700) : lt_tight law a < lt_tight law b := by
  have h1 : a * a < b * b := Int.lt_of_le_of_lt (Int.mul_le_mul_of_nonneg_left (Int.le_of_lt h.2.1) (Int.le_of_lt h.1)) (Int.mul_lt_mul_of_pos_right h.2.1 (by omega))
  unfold lt_tight
  split
  · omega
  · split
    · omega
    · split <;> omega
theorem lt_loose_r {law s : Int} (h : 0 ≤ s ∧ s ≤ 200) : 0 ≤ lt_loose law s ∧ lt_loose law s ≤ 40000 := by
  have h1 := lt_sq_r (a := s) (b := 200) (by omega)
  have h2 := lt_rt_r s.toNat
  unfold lt_loose
  split
  · omega
  · split
    · omega
    · split <;> omega
theorem lt_pr_r {N : Nat} {law fee fr slack : Int} {j : Nat} (hf : 0 ≤ fee ∧ fee ≤ 99) (hs : -3700 ≤ slack ∧ slack ≤ 200) : 0 ≤ lt_pr N law fee fr slack j ∧ lt_pr N law fee fr slack j ≤ 13690099 := by
  unfold lt_pr
  split
  · have := lt_tight_r (law := law) (over := -slack) (by omega)
    omega
  · split
    · omega
    · have := lt_loose_r (law := law) (s := slack) (by omega)
      omega
