/-! where lines begin: a list, and as a set of bits -/
def br_F (o : Nat → Int) : Nat → Nat → List Nat
  | 0, _ => []
  | f + 1, e => if e = 0 then [] else br_F o f (o e).toNat ++ [(o e).toNat]
def br_ok (o : Nat → Int) (N : Nat) : Prop := ∀ e, 0 < e → e ≤ N → 0 ≤ o e ∧ o e < e
theorem br_fuel {o : Nat → Int} {N : Nat} (ho : br_ok o N) : ∀ (f e : Nat), e ≤ f → e ≤ N → br_F o f e = br_F o e e := by
  intro f
  induction f using Nat.strongRecOn with
  | _ f ih =>
    intro e hf hN
    rcases Nat.eq_zero_or_pos e with rfl | hp
    · cases f <;> simp [br_F]
    · obtain ⟨f, rfl⟩ : ∃ x, f = x + 1 := ⟨f - 1, by omega⟩
      obtain ⟨e, rfl⟩ : ∃ x, e = x + 1 := ⟨e - 1, by omega⟩
      have h1 := ho (e + 1) hp hN
      simp only [br_F]
      rw [if_neg (by omega), if_neg (by omega), ih f (by omega) _ (by omega) (by omega)]
      rcases Nat.lt_or_ge e f with z | z
      · rw [ih e (by omega) _ (by omega) (by omega)]
      · have : e = f := by omega
        subst this
        rw [ih e (by omega) _ (by omega) (by omega)]
theorem br_step {o : Nat → Int} {N : Nat} (ho : br_ok o N) {e : Nat} (hp : 0 < e) (hN : e ≤ N) : br_F o e e = br_F o (o e).toNat (o e).toNat ++ [(o e).toNat] := by
  obtain ⟨x, rfl⟩ : ∃ x, e = x + 1 := ⟨e - 1, by omega⟩
  have h1 := ho (x + 1) hp hN
  show (if x + 1 = 0 then [] else br_F o x (o (x + 1)).toNat ++ [(o (x + 1)).toNat]) = _
  rw [if_neg (by omega), br_fuel ho x _ (by omega) (by omega)]
/-- going up, and below the end -/
theorem br_up {o : Nat → Int} {N : Nat} (ho : br_ok o N) : ∀ e, e ≤ N → (∀ x ∈ br_F o e e, x < e) ∧ (br_F o e e).Pairwise (· < ·) := by
  intro e
  induction e using Nat.strongRecOn with
  | _ e ih =>
    intro hN
    rcases Nat.eq_zero_or_pos e with rfl | hp
    · simp [br_F]
    · have h1 := ho e hp hN
      rw [br_step ho hp hN]
      obtain ⟨h2, h3⟩ := ih (o e).toNat (by omega) (by omega)
      refine ⟨fun x hx => ?_, ?_⟩
      · rcases List.mem_append.mp hx with q | q
        · have := h2 x q
          omega
        · rw [List.mem_singleton.mp q]
          omega
      · rw [List.pairwise_append]
        refine ⟨h3, by simp, fun a ha c hc => ?_⟩
        rw [List.mem_singleton.mp hc]
        exact h2 a ha
def br_mk : List Nat → Nat
  | [] => 0
  | x :: t => 2 ^ x ||| br_mk t
theorem br_mk_app (l : List Nat) (a : Nat) : br_mk (l ++ [a]) = br_mk l ||| 2 ^ a := by
  induction l with
  | nil => simp [br_mk]
  | cons x t ih => simp only [List.cons_append, br_mk, ih, Nat.or_assoc]
theorem br_mk_lt {l : List Nat} {k : Nat} (h : ∀ x ∈ l, x < k) : br_mk l < 2 ^ k := by
  induction l with
  | nil => exact Nat.pow_pos (by decide)
  | cons x t ih =>
    simp only [br_mk]
    exact Nat.or_lt_two_pow (Nat.pow_lt_pow_right (by decide) (h x List.mem_cons_self)) (ih (fun y hy => h y (List.mem_cons_of_mem _ hy)))
theorem br_bit (m i : Nat) : m / 2 ^ i % 2 = if m.testBit i then 1 else 0 := by
  have h1 : m.testBit i = decide (m / 2 ^ i % 2 = 1) := by
    first | exact Nat.testBit_eq_decide_div_mod_eq | exact Nat.testBit_to_div_mod | simp [Nat.testBit, Nat.shiftRight_eq_div_pow]
  have h2 : m / 2 ^ i % 2 < 2 := Nat.mod_lt _ (by decide)
  rw [h1]
  by_cases c : m / 2 ^ i % 2 = 1
  · simp [c]
  · rw [if_neg (by simp [c])]
    omega
theorem br_mk_bit (l : List Nat) (i : Nat) : (br_mk l).testBit i = decide (i ∈ l) := by
  induction l with
  | nil => simp [br_mk]
  | cons x t ih =>
    simp only [br_mk, Nat.testBit_or, Nat.testBit_two_pow, ih, List.mem_cons]
    by_cases c : x = i
    · simp [c]
    · have : ¬ i = x := fun q => c q.symm
      simp [c, this]
theorem br_mk_at (l : List Nat) (i : Nat) : br_mk l / 2 ^ i % 2 = if i ∈ l then 1 else 0 := by
  rw [br_bit, br_mk_bit]
  by_cases c : i ∈ l <;> simp [c]
/-- the next one of a rising list -/
theorem br_next {l : List Nat} (hs : l.Pairwise (· < ·)) {m e : Nat} (h1 : ∀ k (hk : k < l.length), k < m → l[k] < e) (h2 : ∀ k (hk : k < l.length), m ≤ k → e ≤ l[k]) (he : e ∈ l) : ∃ hm : m < l.length, l[m] = e := by
  obtain ⟨k, hk, rfl⟩ := List.getElem_of_mem he
  have a : m ≤ k := by
    rcases Nat.lt_or_ge k m with z | z
    · have := h1 k hk z
      omega
    · exact z
  refine ⟨by omega, ?_⟩
  rcases Nat.lt_or_ge m k with z | z
  · have w := List.pairwise_iff_getElem.mp hs m k (by omega) hk z
    have u := h2 m (by omega) (Nat.le_refl _)
    omega
  · have : k = m := by omega
    subst this
    rfl
/-- the lines of a layout -/
def lt_B (q : lt_Q) : List Nat := br_F (dp_o (lt_c q)) q.1 q.1
theorem lt_brok {q : lt_Q} (hq : lt_ok q) : br_ok (dp_o (lt_c q)) q.1 := fun e hp he => by
  obtain ⟨a, h1, -, h3⟩ := dp_o_has (lt_cok hq) he hp
  rw [h3]
  have := h1.1
  omega
theorem lt_B_up {q : lt_Q} (hq : lt_ok q) : (∀ x ∈ lt_B q, x < q.1) ∧ (lt_B q).Pairwise (· < ·) := br_up (lt_brok hq) q.1 (Nat.le_refl _)
theorem br_len {l : List Nat} {N : Nat} (h1 : ∀ x ∈ l, x < N) (h2 : l.Pairwise (· < ·)) : l.length ≤ N := by
  have key : ∀ k (hk : k < l.length), k ≤ l[k] := by
    intro k
    induction k with
    | zero => intro _; omega
    | succ k ih =>
      intro hk
      have := ih (by omega)
      have w := List.pairwise_iff_getElem.mp h2 k (k + 1) (by omega) hk (by omega)
      omega
  rcases Nat.eq_zero_or_pos l.length with z | z
  · omega
  · have a := key (l.length - 1) (by omega)
    have b := h1 l[l.length - 1] (List.getElem_mem _)
    omega
section LYU
variable {h h1 : eb_H} {b rt N bg : Nat} {me law fee fr lines : Int} {pl to ow lb ro : Nat → Int}
def ly_fr (h h' : eb_H) (b : Nat) : Prop := ∀ k, (k < b ∨ b + 5 < k) → h' k = h k
theorem ly_fr.rf : ly_fr h h b := fun _ _ => rfl
theorem ly_fr.up {a : Nat} {e : va_E} (H : ly_fr h h1 b) (ha : b ≤ a ∧ a ≤ b + 5) : ly_fr h (eb_up h1 a e) b := fun k hk => by
  rw [eb_up, if_neg (by omega)]
  exact H k hk
theorem ly_fr.tr {h2 : eb_H} (H : ly_fr h h1 b) (H2 : ly_fr h1 h2 b) : ly_fr h h2 b := fun k hk => (H2 k hk).trans (H k hk)
theorem ly_u0 {N' bg' : Nat} {me' law' fee' fr' lines' : Int} (HL : ly_at h b rt N me law fee fr lines bg pl to ow lb ro) (hrt : rt < b) : ly_at (eb_up h b (ly_obj b rt N' me' law' fee' fr' lines' bg')) b rt N' me' law' fee' fr' lines' bg' pl to ow lb ro := by
  obtain ⟨a0, a1, a2, a3, a4, a5, a6⟩ := HL
  exact ⟨eb_up_s, eb_up_n (by omega) a1, eb_up_n (by omega) a2, eb_up_n (by omega) a3, eb_up_n (by omega) a4, eb_up_n (by omega) a5, eb_up_n (by omega) a6⟩
theorem ly_u1 {f : Nat → Int} (HL : ly_at h b rt N me law fee fr lines bg pl to ow lb ro) (hrt : rt < b) : ly_at (eb_up h (b + 1) (eb_ia 41 f)) b rt N me law fee fr lines bg f to ow lb ro := by
  obtain ⟨a0, a1, a2, a3, a4, a5, a6⟩ := HL
  exact ⟨eb_up_n (by omega) a0, eb_up_s, eb_up_n (by omega) a2, eb_up_n (by omega) a3, eb_up_n (by omega) a4, eb_up_n (by omega) a5, eb_up_n (by omega) a6⟩
theorem ly_u2 {f : Nat → Int} (HL : ly_at h b rt N me law fee fr lines bg pl to ow lb ro) (hrt : rt < b) : ly_at (eb_up h (b + 2) (eb_ia 41 f)) b rt N me law fee fr lines bg pl f ow lb ro := by
  obtain ⟨a0, a1, a2, a3, a4, a5, a6⟩ := HL
  exact ⟨eb_up_n (by omega) a0, eb_up_n (by omega) a1, eb_up_s, eb_up_n (by omega) a3, eb_up_n (by omega) a4, eb_up_n (by omega) a5, eb_up_n (by omega) a6⟩
theorem ly_u3 {f : Nat → Int} (HL : ly_at h b rt N me law fee fr lines bg pl to ow lb ro) (hrt : rt < b) : ly_at (eb_up h (b + 3) (eb_ia 41 f)) b rt N me law fee fr lines bg pl to f lb ro := by
  obtain ⟨a0, a1, a2, a3, a4, a5, a6⟩ := HL
  exact ⟨eb_up_n (by omega) a0, eb_up_n (by omega) a1, eb_up_n (by omega) a2, eb_up_s, eb_up_n (by omega) a4, eb_up_n (by omega) a5, eb_up_n (by omega) a6⟩
theorem ly_u4 {f : Nat → Int} (HL : ly_at h b rt N me law fee fr lines bg pl to ow lb ro) (hrt : rt < b) : ly_at (eb_up h (b + 4) (eb_ia 41 f)) b rt N me law fee fr lines bg pl to ow f ro := by
  obtain ⟨a0, a1, a2, a3, a4, a5, a6⟩ := HL
  exact ⟨eb_up_n (by omega) a0, eb_up_n (by omega) a1, eb_up_n (by omega) a2, eb_up_n (by omega) a3, eb_up_s, eb_up_n (by omega) a5, eb_up_n (by omega) a6⟩
theorem ly_u5 {f : Nat → Int} (HL : ly_at h b rt N me law fee fr lines bg pl to ow lb ro) (hrt : rt < b) : ly_at (eb_up h (b + 5) (eb_ia 41 f)) b rt N me law fee fr lines bg pl to ow lb f := by
  obtain ⟨a0, a1, a2, a3, a4, a5, a6⟩ := HL
  exact ⟨eb_up_n (by omega) a0, eb_up_n (by omega) a1, eb_up_n (by omega) a2, eb_up_n (by omega) a3, eb_up_n (by omega) a4, eb_up_s, eb_up_n (by omega) a6⟩
end LYU
