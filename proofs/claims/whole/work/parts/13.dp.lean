/-! least sums, and where they begin -/
def dp_m (f : Nat → Int) : Nat → Int
  | 0 => 2000000000
  | n + 1 => if f n < dp_m f n then f n else dp_m f n
def dp_a (f : Nat → Int) : Nat → Int
  | 0 => -1
  | n + 1 => if f n < dp_m f n then (n : Int) else dp_a f n
theorem dp_m_congr {f g : Nat → Int} {n : Nat} (h : ∀ i, i < n → f i = g i) : dp_m f n = dp_m g n := by
  induction n with
  | zero => rfl
  | succ n ih =>
    simp only [dp_m]
    rw [ih (fun i hi => h i (by omega)), h n (by omega)]
theorem dp_a_congr {f g : Nat → Int} {n : Nat} (h : ∀ i, i < n → f i = g i) : dp_a f n = dp_a g n := by
  induction n with
  | zero => rfl
  | succ n ih =>
    simp only [dp_a]
    rw [ih (fun i hi => h i (by omega)), h n (by omega), dp_m_congr (fun i hi => h i (by omega))]
/-- what the scan finds: the least, and the first place where it stands -/
def dp_is (f : Nat → Int) (n a : Nat) : Prop := a < n ∧ ∀ i, i < n → f a ≤ f i ∧ (i < a → f a < f i)
theorem dp_is_un {f : Nat → Int} {n a b : Nat} (ha : dp_is f n a) (hb : dp_is f n b) : a = b := by
  obtain ⟨h1, h2⟩ := ha
  obtain ⟨h3, h4⟩ := hb
  have p := h2 b h3
  have q := h4 a h1
  rcases Nat.lt_trichotomy a b with z | z | z
  · have := q.2 z
    omega
  · exact z
  · have := p.2 z
    omega
theorem dp_has {f : Nat → Int} {n : Nat} (hn : 0 < n) (h : ∀ i, i < n → f i < 2000000000) : ∃ a : Nat, dp_is f n a ∧ dp_m f n = f a ∧ dp_a f n = (a : Int) := by
  induction n with
  | zero => omega
  | succ n ih =>
    rcases Nat.eq_zero_or_pos n with rfl | hp
    · refine ⟨0, ⟨by omega, fun i hi => ?_⟩, ?_, ?_⟩
      · have : i = 0 := by omega
        subst this
        exact ⟨Int.le_refl _, fun q => absurd q (by omega)⟩
      · exact if_pos (h 0 (by omega))
      · exact if_pos (h 0 (by omega))
    · obtain ⟨a, ⟨h1, h2⟩, h3, h4⟩ := ih hp (fun i hi => h i (by omega))
      by_cases c : f n < dp_m f n
      · refine ⟨n, ⟨by omega, fun i hi => ?_⟩, by simp only [dp_m]; rw [if_pos c], by simp only [dp_a]; rw [if_pos c]⟩
        rcases Nat.lt_or_ge i n with q | q
        · have := (h2 i q).1
          rw [h3] at c
          exact ⟨by omega, fun _ => by omega⟩
        · have : i = n := by omega
          subst this
          exact ⟨Int.le_refl _, fun q => absurd q (by omega)⟩
      · refine ⟨a, ⟨by omega, fun i hi => ?_⟩, by simp only [dp_m]; rw [if_neg c]; exact h3, by simp only [dp_a]; rw [if_neg c]; exact h4⟩
        rcases Nat.lt_or_ge i n with q | q
        · exact h2 i q
        · have : i = n := by omega
          subst this
          rw [h3] at c
          exact ⟨by omega, fun q => absurd q (by omega)⟩
theorem dp_eq {f : Nat → Int} {n a : Nat} (h : ∀ i, i < n → f i < 2000000000) (ha : dp_is f n a) : dp_m f n = f a ∧ dp_a f n = (a : Int) := by
  obtain ⟨b, h1, h2, h3⟩ := dp_has (by have := ha.1; omega) h
  have := dp_is_un ha h1
  subst this
  exact ⟨h2, h3⟩
def dp_tab (c : Nat → Nat → Int) : Nat → Nat → Int
  | 0 => fun _ => 0
  | e + 1 => fun k => if k = e + 1 then dp_m (fun i => dp_tab c e i + c i (e + 1)) (e + 1) else dp_tab c e k
def dp_t (c : Nat → Nat → Int) (e : Nat) : Int := dp_tab c e e
def dp_f (c : Nat → Nat → Int) (e : Nat) : Nat → Int := fun i => dp_t c i + c i e
def dp_o (c : Nat → Nat → Int) (e : Nat) : Int := dp_a (dp_f c e) e
theorem dp_tab_eq (c : Nat → Nat → Int) : ∀ (e k : Nat), k ≤ e → dp_tab c e k = dp_t c k := by
  intro e
  induction e with
  | zero => intro k hk; have : k = 0 := by omega
            subst this; rfl
  | succ e ih =>
    intro k hk
    rcases Nat.lt_or_ge e k with q | q
    · have : k = e + 1 := by omega
      subst this; rfl
    · simp only [dp_tab]
      rw [if_neg (by omega)]
      exact ih k q
theorem dp_t_0 (c : Nat → Nat → Int) : dp_t c 0 = 0 := rfl
theorem dp_t_s (c : Nat → Nat → Int) {e : Nat} (he : 0 < e) : dp_t c e = dp_m (dp_f c e) e := by
  obtain ⟨e, rfl⟩ : ∃ x, e = x + 1 := ⟨e - 1, by omega⟩
  show (if e + 1 = e + 1 then dp_m (fun i => dp_tab c e i + c i (e + 1)) (e + 1) else dp_tab c e (e + 1)) = _
  rw [if_pos rfl]
  exact dp_m_congr (fun i hi => by rw [dp_tab_eq c e i (by omega)]; rfl)
/-- costs that are nothing strange: totals lie between 0 and the one line's cost -/
def dp_cok (c : Nat → Nat → Int) (N : Nat) : Prop := ∀ i j, i < j → j ≤ N → 0 ≤ c i j ∧ c i j ≤ 13690099
theorem dp_t_r {c : Nat → Nat → Int} {N : Nat} (hc : dp_cok c N) : ∀ e, e ≤ N → 0 ≤ dp_t c e ∧ dp_t c e ≤ 13690099 := by
  intro e
  induction e using Nat.strongRecOn with
  | _ e ih =>
    intro he
    rcases Nat.eq_zero_or_pos e with rfl | hp
    · rw [dp_t_0]; omega
    · have hf : ∀ i, i < e → dp_f c e i < 2000000000 := fun i hi => by
        have h1 := ih i hi (by omega)
        have h2 := hc i e hi he
        unfold dp_f
        omega
      obtain ⟨a, ⟨h1, h2⟩, h3, -⟩ := dp_has hp hf
      rw [dp_t_s c hp, h3]
      have h4 := h2 0 hp
      have h5 : dp_f c e 0 = c 0 e := by unfold dp_f; rw [dp_t_0]; omega
      have h6 := hc 0 e hp he
      have h7 := ih a h1 (by omega)
      have h8 := hc a e h1 he
      have h9 : dp_f c e a = dp_t c a + c a e := rfl
      omega
theorem dp_f_lt {c : Nat → Nat → Int} {N : Nat} (hc : dp_cok c N) {e : Nat} (he : e ≤ N) : ∀ i, i < e → 0 ≤ dp_f c e i ∧ dp_f c e i < 30000000 := fun i hi => by
  have h1 := dp_t_r hc i (by omega)
  have h2 := hc i e hi he
  unfold dp_f
  omega
theorem dp_o_has {c : Nat → Nat → Int} {N : Nat} (hc : dp_cok c N) {e : Nat} (he : e ≤ N) (hp : 0 < e) : ∃ a : Nat, dp_is (dp_f c e) e a ∧ dp_t c e = dp_f c e a ∧ dp_o c e = (a : Int) := by
  obtain ⟨a, h1, h2, h3⟩ := dp_has (f := dp_f c e) hp (fun i hi => by have := dp_f_lt hc he i hi; omega)
  exact ⟨a, h1, by rw [dp_t_s c hp]; exact h2, h3⟩
/-- the parameters of a layout: how many words, how wide, measure, law, fee, free -/
abbrev lt_Q : Type := Nat × (Nat → Int) × Int × Int × Int × Int
def lt_c (q : lt_Q) (i j : Nat) : Int := lt_pr q.1 q.2.2.2.1 q.2.2.2.2.1 q.2.2.2.2.2 (q.2.2.1 - (lt_pl q.2.1 j - lt_pl q.2.1 i - 1)) j
def lt_ok (q : lt_Q) : Prop := (q.1 ≤ 40 ∧ (1 ≤ q.2.2.1 ∧ q.2.2.1 ≤ 200) ∧ (0 ≤ q.2.2.2.1 ∧ q.2.2.2.1 ≤ 4) ∧ (0 ≤ q.2.2.2.2.1 ∧ q.2.2.2.2.1 ≤ 99) ∧ (q.2.2.2.2.2 = 0 ∨ q.2.2.2.2.2 = 1)) ∧ lt_wok q.1 q.2.1
theorem lt_slack {q : lt_Q} (hq : lt_ok q) {i j : Nat} (hij : i < j) (hj : j ≤ q.1) : -3700 ≤ q.2.2.1 - (lt_pl q.2.1 j - lt_pl q.2.1 i - 1) ∧ q.2.2.1 - (lt_pl q.2.1 j - lt_pl q.2.1 i - 1) < 200 := by
  have h1 := lt_pl_mono hq.2 (Nat.le_of_lt hij) hj
  have h2 := lt_pl_r hq.2 j hj
  have h3 := lt_pl_r hq.2 i (by omega)
  have h4 := hq.1
  omega
theorem lt_cok {q : lt_Q} (hq : lt_ok q) : dp_cok (lt_c q) q.1 := fun i j hij hj => by
  have := lt_slack hq hij hj
  exact lt_pr_r hq.1.2.2.2.1 (by omega)
/-- a line that is too wide costs the more the wider it is -/
theorem lt_wide {q : lt_Q} (hq : lt_ok q) {i k j : Nat} (hik : i ≤ k) (hkj : k < j) (hj : j ≤ q.1) (hs : q.2.2.1 - (lt_pl q.2.1 j - lt_pl q.2.1 k - 1) < 0) : lt_c q k j ≤ lt_c q i j := by
  rcases Nat.lt_or_ge i k with z | z
  · have h1 := lt_pl_mono hq.2 hik (by omega)
    have h2 := lt_slack hq (show i < j by omega) hj
    unfold lt_c lt_pr
    rw [if_pos hs, if_pos (by omega)]
    have := lt_tight_mono (law := q.2.2.2.1) (a := -(q.2.2.1 - (lt_pl q.2.1 j - lt_pl q.2.1 k - 1))) (b := -(q.2.2.1 - (lt_pl q.2.1 j - lt_pl q.2.1 i - 1))) (by omega)
    omega
  · have : i = k := by omega
    subst this
    exact Int.le_refl _
