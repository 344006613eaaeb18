/-! Survey: the text by every measure, and what is seen -/
abbrev su_obj (s : Nat) (fresh seen : Int) (sb sn : Nat) : va_E := .inr (5, [.ref (s + 1), .ref (s + 2), .int (eb_I fresh), .int (eb_I seen), .long (eb_J (sb : Int)), .long (eb_J (sn : Int))])
def su_l (sees : List (Nat × Bool)) (x : Bool) : List Nat := (sees.filter (fun q => q.2 == x)).map (fun q => q.1)
def su_at (h : eb_H) (s : Nat) (fresh : Int) (sees : List (Nat × Bool)) (tb bf : Nat → Int) : Prop := h s = su_obj s fresh sees.length (br_mk (su_l sees true)) (br_mk (su_l sees false)) ∧ h (s + 1) = eb_ia 201 tb ∧ h (s + 2) = eb_la 201 bf
def su_ok (sees : List (Nat × Bool)) : Prop := sees.length ≤ 6 ∧ ∀ q ∈ sees, q.1 ≤ 40
def ft (a : Nat) (sees : List (Nat × Bool)) : Bool := sees.all (fun q => a.testBit q.1 == q.2)
theorem su_l_lt {sees : List (Nat × Bool)} (h : su_ok sees) (x : Bool) : br_mk (su_l sees x) < 2 ^ 41 := br_mk_lt (fun y hy => by
  obtain ⟨q, h1, h2⟩ := List.mem_map.mp hy
  have := h.2 q (List.mem_filter.mp h1).1
  omega)
theorem br_and_eq (a : Nat) (l : List Nat) : a &&& br_mk l = br_mk l ↔ ∀ e ∈ l, a.testBit e = true := by
  constructor
  · intro h e he
    have h1 := congrArg (fun z => z.testBit e) h
    simp only [Nat.testBit_and, br_mk_bit] at h1
    simpa [he] using h1
  · intro h
    apply Nat.eq_of_testBit_eq
    intro i
    rw [Nat.testBit_and, br_mk_bit]
    by_cases c : i ∈ l
    · simp [c, h i c]
    · simp [c]
theorem br_and_0 (a : Nat) (l : List Nat) : a &&& br_mk l = 0 ↔ ∀ e ∈ l, a.testBit e = false := by
  constructor
  · intro h e he
    have h1 := congrArg (fun z => z.testBit e) h
    simp only [Nat.testBit_and, br_mk_bit, Nat.zero_testBit] at h1
    simpa [he] using h1
  · intro h
    apply Nat.eq_of_testBit_eq
    intro i
    rw [Nat.testBit_and, br_mk_bit, Nat.zero_testBit]
    by_cases c : i ∈ l
    · simp [c, h i c]
    · simp [c]
theorem ft_iff (a : Nat) (sees : List (Nat × Bool)) : ft a sees = true ↔ (a &&& br_mk (su_l sees true) = br_mk (su_l sees true) ∧ a &&& br_mk (su_l sees false) = 0) := by
  rw [br_and_eq, br_and_0]
  unfold ft su_l
  rw [List.all_eq_true]
  constructor
  · intro h
    refine ⟨fun e he => ?_, fun e he => ?_⟩
    · obtain ⟨q, h1, rfl⟩ := List.mem_map.mp he
      obtain ⟨h2, h3⟩ := List.mem_filter.mp h1
      have := h q h2
      simp at this h3
      rw [this, h3]
    · obtain ⟨q, h1, rfl⟩ := List.mem_map.mp he
      obtain ⟨h2, h3⟩ := List.mem_filter.mp h1
      have := h q h2
      simp at this h3
      rw [this, h3]
  · intro ⟨h1, h2⟩ q hq
    cases hx : q.2 with
    | true =>
      have := h1 q.1 (List.mem_map.mpr ⟨q, List.mem_filter.mpr ⟨hq, by simp [hx]⟩, rfl⟩)
      simp [this]
    | false =>
      have := h2 q.1 (List.mem_map.mpr ⟨q, List.mem_filter.mpr ⟨hq, by simp [hx]⟩, rfl⟩)
      simp [this]
theorem eb_cmp0 {a b : Int} (h : a = b) : (if b < a then (1 : Int) else if a = b then 0 else -1) = 0 := by rw [if_neg (by omega), if_pos h]
theorem eb_cmpn {a b : Int} (h : ¬ a = b) : ∃ v, (if b < a then (1 : Int) else if a = b then 0 else -1) = v ∧ v ≠ 0 ∧ -1 ≤ v ∧ v ≤ 1 := by
  by_cases c : b < a
  · exact ⟨1, by rw [if_pos c], by omega, by omega, by omega⟩
  · exact ⟨-1, by rw [if_neg c, if_neg h], by omega, by omega, by omega⟩
/-- the greatest of a kind, or -1 -/
def gc (S : Nat → Prop) (v : Int) : Prop := (v = -1 ∧ ∀ m, ¬ S m) ∨ ∃ m : Nat, S m ∧ v = (m : Int) ∧ ∀ m', S m' → m' ≤ m
theorem gc_ex (S : Nat → Prop) (N : Nat) (hN : ∀ m, S m → m ≤ N) : ∃ v, gc S v := by
  by_cases h : ∃ m, S m
  · obtain ⟨m, hm⟩ := h
    have key : ∀ d m, S m → N ≤ m + d → ∃ v, gc S v := by
      intro d
      induction d with
      | zero => intro m hm hd; exact ⟨m, Or.inr ⟨m, hm, rfl, fun k hk => by have := hN k hk; omega⟩⟩
      | succ d ih =>
        intro m hm hd
        by_cases c : ∃ k, m < k ∧ S k
        · obtain ⟨k, h1, h2⟩ := c
          exact ih k h2 (by omega)
        · refine ⟨m, Or.inr ⟨m, hm, rfl, fun k hk => ?_⟩⟩
          rcases Nat.lt_or_ge m k with z | z
          · exact absurd ⟨k, z, hk⟩ c
          · exact z
    exact key N m hm (by omega)
  · exact ⟨-1, Or.inl ⟨rfl, fun m hm => h ⟨m, hm⟩⟩⟩
theorem gc_none {S : Nat → Prop} {v : Int} (h : gc S v) (hn : ∀ m, ¬ S m) : v = -1 := by
  rcases h with ⟨h1, -⟩ | ⟨m, h1, -⟩
  · exact h1
  · exact absurd h1 (hn m)
theorem gc_at {S : Nat → Prop} {v : Int} (h : gc S v) {m : Nat} (hm : S m) (hl : ∀ k, S k → k ≤ m) : v = (m : Int) := by
  rcases h with ⟨-, h1⟩ | ⟨k, h1, h2, h3⟩
  · exact absurd hm (h1 m)
  · have a := h3 m hm
    have b := hl k h1
    omega
def lk_F (P : Nat → Int) (all : Int) : Nat → Int × Int
  | 0 => (-1, all)
  | e + 1 => if max (P e) (all - P e) < (lk_F P all e).2 then ((e : Int), max (P e) (all - P e)) else lk_F P all e
/-- a measure that fits, as a number -/
def su_F (bm : Nat → Nat) (sees : List (Nat × Bool)) (m : Nat) : Int := if ft (bm m) sees then 1 else 0
def su_E (bm : Nat → Nat) (sees : List (Nat × Bool)) (e m : Nat) : Int := if ft (bm m) sees ∧ (bm m).testBit e = true then 1 else 0
theorem sm_r1 {g : Nat → Int} (h : ∀ v, 0 ≤ g v ∧ g v ≤ 1) (lo d : Nat) : 0 ≤ sm g lo d ∧ sm g lo d ≤ d := by
  have := sm_r (g := g) (lo := lo) (d := d) (m := 1) (fun v _ _ => h v)
  omega
theorem su_F_r (bm : Nat → Nat) (sees : List (Nat × Bool)) (m : Nat) : 0 ≤ su_F bm sees m ∧ su_F bm sees m ≤ 1 := by unfold su_F; split <;> omega
theorem su_E_r (bm : Nat → Nat) (sees : List (Nat × Bool)) (e m : Nat) : 0 ≤ su_E bm sees e m ∧ su_E bm sees e m ≤ 1 := by unfold su_E; split <;> omega
section SUS
variable {n : Nat} {h : eb_H} {s : Nat} {fresh : Int} {sees : List (Nat × Bool)} {tb bf : Nat → Int} {bm : Nat → Nat}
theorem c_X6_fits {m : Nat} (HS : su_at h s fresh sees tb bf) (ho : su_ok sees) (hb : ∀ m, 1 ≤ m → m ≤ 200 → bf m = (bm m : Int) ∧ bm m < 2 ^ 41) (hm : 1 ≤ m ∧ m ≤ 200) : eb_T mX6_fits [.ref s, .int (eb_I (m : Int))] n h (eb_X (some (.int (eb_I (su_F bm sees m)))) n h) := by
  refine eb_T.of (by decide +kernel) (Nat.le_of_ble_eq_true rfl) ?_
  show eb_V _ _ 0 [.ref s, .int (eb_I (m : Int))] [] (n, 0, 0) h _
  obtain ⟨H_this, H_this_totalBy, H_this_beginsBy⟩ := HS
  obtain ⟨e1, e2⟩ := hb m hm.1 hm.2
  have e3 : bf ((m : Nat) : Int).toNat = (bm m : Int) := by rw [Int.toNat_natCast]; exact e1
  have l1 := su_l_lt ho true
  have l0 := su_l_lt ho false
  have hiff := ft_iff (bm m) sees
  have a1 : bm m &&& br_mk (su_l sees true) < 2 ^ 41 := Nat.lt_of_le_of_lt Nat.and_le_left e2
  have a0 : bm m &&& br_mk (su_l sees false) < 2 ^ 41 := Nat.lt_of_le_of_lt Nat.and_le_left e2
  by_cases c1 : bm m &&& br_mk (su_l sees true) = br_mk (su_l sees true)
  · by_cases c0 : bm m &&& br_mk (su_l sees false) = 0
    · have e4 : su_F bm sees m = 1 := by unfold su_F; rw [if_pos (hiff.mpr ⟨c1, c0⟩)]
      rw [e4]
      refine V_aload_n eX6_fits_0 rfl rfl ?_
      refine V_getf eX6_fits_1 H_this rfl ?_
      refine V_iload_n eX6_fits_4 rfl rfl ?_
      refine V_lald eX6_fits_5 H_this_beginsBy (by omega) ?_
      rw [e3]
      refine V_aload_n eX6_fits_6 rfl rfl ?_
      refine V_getf eX6_fits_7 H_this rfl ?_
      refine V_land eX6_fits_10 (eb_and (by omega) (by omega)) ?_
      refine V_aload_n eX6_fits_11 rfl rfl ?_
      refine V_getf eX6_fits_12 H_this rfl ?_
      refine V_lcmpI eX6_fits_15 (by omega) ?_
      rw [eb_cmp0 (by rw [c1])]
      refine V_if_ne (tgt := 39) eX6_fits_16 rfl (by omega) (fun c_16 => ?_) (fun c_16 => ?_)
      · exact absurd rfl c_16
      · refine V_aload_n eX6_fits_19 rfl rfl ?_
        refine V_getf eX6_fits_20 H_this rfl ?_
        refine V_iload_n eX6_fits_23 rfl rfl ?_
        refine V_lald eX6_fits_24 H_this_beginsBy (by omega) ?_
        rw [e3]
        refine V_aload_n eX6_fits_25 rfl rfl ?_
        refine V_getf eX6_fits_26 H_this rfl ?_
        refine V_land eX6_fits_29 (eb_and (by omega) (by omega)) ?_
        refine V_lconst (b := 0) eX6_fits_30 (by decide) ?_
        refine V_lcmpI eX6_fits_31 (by omega) ?_
        rw [eb_cmp0 (by rw [c0]; rfl)]
        refine V_if_ne (tgt := 39) eX6_fits_32 rfl (by omega) (fun c_32 => ?_) (fun c_32 => ?_)
        · exact absurd rfl c_32
        · refine V_iconst eX6_fits_35 ?_
          refine V_goto (tgt := 40) eX6_fits_36 rfl ?_
          exact V_iret eX6_fits_40 ⟨Nat.zero_le _, Nat.zero_le _⟩ rfl (rfl) (⟨rfl, rfl, rfl⟩)
    · have e4 : su_F bm sees m = 0 := by unfold su_F; rw [if_neg (fun q => c0 (hiff.mp q).2)]
      rw [e4]
      obtain ⟨v, hv, hv0, hvr⟩ := eb_cmpn (a := ((bm m &&& br_mk (su_l sees false) : Nat) : Int)) (b := 0) (by omega)
      refine V_aload_n eX6_fits_0 rfl rfl ?_
      refine V_getf eX6_fits_1 H_this rfl ?_
      refine V_iload_n eX6_fits_4 rfl rfl ?_
      refine V_lald eX6_fits_5 H_this_beginsBy (by omega) ?_
      rw [e3]
      refine V_aload_n eX6_fits_6 rfl rfl ?_
      refine V_getf eX6_fits_7 H_this rfl ?_
      refine V_land eX6_fits_10 (eb_and (by omega) (by omega)) ?_
      refine V_aload_n eX6_fits_11 rfl rfl ?_
      refine V_getf eX6_fits_12 H_this rfl ?_
      refine V_lcmpI eX6_fits_15 (by omega) ?_
      rw [eb_cmp0 (by rw [c1])]
      refine V_if_ne (tgt := 39) eX6_fits_16 rfl (by omega) (fun c_16 => ?_) (fun c_16 => ?_)
      · exact absurd rfl c_16
      · refine V_aload_n eX6_fits_19 rfl rfl ?_
        refine V_getf eX6_fits_20 H_this rfl ?_
        refine V_iload_n eX6_fits_23 rfl rfl ?_
        refine V_lald eX6_fits_24 H_this_beginsBy (by omega) ?_
        rw [e3]
        refine V_aload_n eX6_fits_25 rfl rfl ?_
        refine V_getf eX6_fits_26 H_this rfl ?_
        refine V_land eX6_fits_29 (eb_and (by omega) (by omega)) ?_
        refine V_lconst (b := 0) eX6_fits_30 (by decide) ?_
        refine V_lcmpI eX6_fits_31 (by omega) ?_
        rw [hv]
        refine V_if_ne (tgt := 39) eX6_fits_32 rfl (by omega) (fun c_32 => ?_) (fun c_32 => ?_)
        · refine V_iconst eX6_fits_39 ?_
          exact V_iret eX6_fits_40 ⟨Nat.zero_le _, Nat.zero_le _⟩ rfl (rfl) (⟨rfl, rfl, rfl⟩)
        · exact absurd c_32 hv0
  · have e4 : su_F bm sees m = 0 := by unfold su_F; rw [if_neg (fun q => c1 (hiff.mp q).1)]
    rw [e4]
    obtain ⟨v, hv, hv0, hvr⟩ := eb_cmpn (a := ((bm m &&& br_mk (su_l sees true) : Nat) : Int)) (b := ((br_mk (su_l sees true) : Nat) : Int)) (by omega)
    refine V_aload_n eX6_fits_0 rfl rfl ?_
    refine V_getf eX6_fits_1 H_this rfl ?_
    refine V_iload_n eX6_fits_4 rfl rfl ?_
    refine V_lald eX6_fits_5 H_this_beginsBy (by omega) ?_
    rw [e3]
    refine V_aload_n eX6_fits_6 rfl rfl ?_
    refine V_getf eX6_fits_7 H_this rfl ?_
    refine V_land eX6_fits_10 (eb_and (by omega) (by omega)) ?_
    refine V_aload_n eX6_fits_11 rfl rfl ?_
    refine V_getf eX6_fits_12 H_this rfl ?_
    refine V_lcmpI eX6_fits_15 (by omega) ?_
    rw [hv]
    refine V_if_ne (tgt := 39) eX6_fits_16 rfl (by omega) (fun c_16 => ?_) (fun c_16 => ?_)
    · refine V_iconst eX6_fits_39 ?_
      exact V_iret eX6_fits_40 ⟨Nat.zero_le _, Nat.zero_le _⟩ rfl (rfl) (⟨rfl, rfl, rfl⟩)
    · exact absurd c_16 hv0
theorem c_X6_fitting (HS : su_at h s fresh sees tb bf) (ho : su_ok sees) (hb : ∀ m, 1 ≤ m → m ≤ 200 → bf m = (bm m : Int) ∧ bm m < 2 ^ 41) : eb_T mX6_fitting [.ref s] n h (eb_X (some (.int (eb_I (sm (su_F bm sees) 1 200)))) n h) := by
  refine eb_T.of (by decide +kernel) (Nat.le_of_ble_eq_true rfl) ?_
  show eb_V _ _ 0 [.ref s, eb_no, eb_no] [] (n, 0, 0) h _
  have H_this := HS.1
  have loop : ∀ (d i : Nat), i + d = 200 → eb_V mX6_fitting (fun _ _ _ => True) 4 [.ref s, .int (eb_I (sm (su_F bm sees) 1 i)), .int (eb_I ((1 + i : Nat) : Int))] [] (n, 0, 0) h (eb_R mX6_fitting (eb_X (some (.int (eb_I (sm (su_F bm sees) 1 200)))) n h)) := by
    intro d
    induction d with
    | zero =>
      intro i hi
      have : i = 200 := by omega
      subst this
      refine V_iload_n eX6_fitting_4 rfl rfl ?_
      refine V_sipush eX6_fitting_5 (by decide) ?_
      refine V_icmp_gt (tgt := 28) eX6_fitting_8 rfl (by omega) (fun c_8 => ?_) (fun c_8 => ?_)
      · refine V_iload_n eX6_fitting_28 rfl rfl ?_
        exact V_iret eX6_fitting_29 ⟨Nat.zero_le _, Nat.zero_le _⟩ rfl (rfl) (⟨rfl, rfl, rfl⟩)
      · exact absurd (by omega) c_8
    | succ d ih =>
      intro i hi
      have hF := su_F_r bm sees (1 + i)
      have hs := sm_r1 (su_F_r bm sees) 1 i
      have e1 : sm (su_F bm sees) 1 (i + 1) = sm (su_F bm sees) 1 i + su_F bm sees (1 + i) := rfl
      have nxt := ih (i + 1) (by omega)
      have J : ∀ x : Int, x = sm (su_F bm sees) 1 (i + 1) → eb_V mX6_fitting (fun _ _ _ => True) 22 [.ref s, .int (eb_I x), .int (eb_I ((1 + i : Nat) : Int))] [] (n, 0, 0) h (eb_R mX6_fitting (eb_X (some (.int (eb_I (sm (su_F bm sees) 1 200)))) n h)) := by
        intro x hx
        subst hx
        refine V_iinc eX6_fitting_22 rfl rfl (eb_sS (eb_sS eb_s0)) ?_
        refine V_goto (tgt := 4) eX6_fitting_25 rfl ?_
        exact nxt
      refine V_iload_n eX6_fitting_4 rfl rfl ?_
      refine V_sipush eX6_fitting_5 (by decide) ?_
      refine V_icmp_gt (tgt := 28) eX6_fitting_8 rfl (by omega) (fun c_8 => ?_) (fun c_8 => ?_)
      · exact absurd c_8 (by omega)
      · refine V_aload_n eX6_fitting_11 rfl rfl ?_
        refine V_iload_n eX6_fitting_12 rfl rfl ?_
        refine V_cvi eX6_fitting_13 (c_X6_fits HS ho hb (by omega)) H_this rfl rfl (Nat.le_of_ble_eq_true rfl) ⟨rfl, rfl⟩ ⟨Nat.zero_le _, Nat.zero_le _⟩ ?_
        refine V_if_eq (tgt := 22) eX6_fitting_16 rfl (by omega) (fun c_16 => ?_) (fun c_16 => ?_)
        · exact J _ (by omega)
        · refine V_iinc eX6_fitting_19 rfl rfl (eb_sS eb_s0) ?_
          exact J _ (by omega)
  refine V_iconst eX6_fitting_0 ?_
  refine V_istore_n eX6_fitting_1 rfl (Nat.le_of_ble_eq_true rfl) rfl (eb_sS eb_s0) ?_
  refine V_iconst eX6_fitting_2 ?_
  refine V_istore_n eX6_fitting_3 rfl (Nat.le_of_ble_eq_true rfl) rfl (eb_sS (eb_sS eb_s0)) ?_
  exact loop 200 0 (by omega)
theorem c_X6_leastFitting {v : Int} (HS : su_at h s fresh sees tb bf) (ho : su_ok sees) (hb : ∀ m, 1 ≤ m → m ≤ 200 → bf m = (bm m : Int) ∧ bm m < 2 ^ 41) (hv : lc (fun m => (1 ≤ m ∧ m ≤ 200) ∧ ft (bm m) sees = true) v) : eb_T mX6_leastFitting [.ref s] n h (eb_X (some (.int (eb_I v))) n h) := by
  refine eb_T.of (by decide +kernel) (Nat.le_of_ble_eq_true rfl) ?_
  show eb_V _ _ 0 [.ref s, eb_no] [] (n, 0, 0) h _
  have H_this := HS.1
  have loop : ∀ (d i : Nat), 1 ≤ i → i + d = 201 → (∀ m, 1 ≤ m → m < i → ¬ ft (bm m) sees = true) → eb_V mX6_leastFitting (fun _ _ _ => True) 2 [.ref s, .int (eb_I (i : Int))] [] (n, 0, 0) h (eb_R mX6_leastFitting (eb_X (some (.int (eb_I v))) n h)) := by
    intro d
    induction d with
    | zero =>
      intro i h1 hi g
      have : v = -1 := lc_none hv (fun m hm => g m hm.1.1 (by omega) hm.2)
      subst this
      refine V_iload_n eX6_leastFitting_2 rfl rfl ?_
      refine V_sipush eX6_leastFitting_3 (by decide) ?_
      refine V_icmp_gt (tgt := 25) eX6_leastFitting_6 rfl (by omega) (fun c_6 => ?_) (fun c_6 => ?_)
      · refine V_iconst eX6_leastFitting_25 ?_
        exact V_iret eX6_leastFitting_26 ⟨Nat.zero_le _, Nat.zero_le _⟩ rfl (rfl) (⟨rfl, rfl, rfl⟩)
      · exact absurd (by omega) c_6
    | succ d ih =>
      intro i h1 hi g
      by_cases c : ft (bm i) sees = true
      · have e1 : su_F bm sees i = 1 := by unfold su_F; rw [if_pos c]
        have : v = (i : Int) := lc_at hv ⟨⟨h1, by omega⟩, c⟩ (fun m hm => by
          rcases Nat.lt_or_ge m i with z | z
          · exact absurd hm.2 (g m hm.1.1 z)
          · exact z)
        subst this
        refine V_iload_n eX6_leastFitting_2 rfl rfl ?_
        refine V_sipush eX6_leastFitting_3 (by decide) ?_
        refine V_icmp_gt (tgt := 25) eX6_leastFitting_6 rfl (by omega) (fun c_6 => ?_) (fun c_6 => ?_)
        · exact absurd c_6 (by omega)
        · refine V_aload_n eX6_leastFitting_9 rfl rfl ?_
          refine V_iload_n eX6_leastFitting_10 rfl rfl ?_
          refine V_cvi eX6_leastFitting_11 (c_X6_fits HS ho hb (by omega)) H_this rfl rfl (Nat.le_of_ble_eq_true rfl) ⟨rfl, rfl⟩ ⟨Nat.zero_le _, Nat.zero_le _⟩ ?_
          rw [e1]
          refine V_if_eq (tgt := 19) eX6_leastFitting_14 rfl (by omega) (fun c_14 => ?_) (fun c_14 => ?_)
          · exact absurd c_14 (by omega)
          · refine V_iload_n eX6_leastFitting_17 rfl rfl ?_
            exact V_iret eX6_leastFitting_18 ⟨Nat.zero_le _, Nat.zero_le _⟩ rfl (rfl) (⟨rfl, rfl, rfl⟩)
      · have e1 : su_F bm sees i = 0 := by unfold su_F; rw [if_neg c]
        refine V_iload_n eX6_leastFitting_2 rfl rfl ?_
        refine V_sipush eX6_leastFitting_3 (by decide) ?_
        refine V_icmp_gt (tgt := 25) eX6_leastFitting_6 rfl (by omega) (fun c_6 => ?_) (fun c_6 => ?_)
        · exact absurd c_6 (by omega)
        · refine V_aload_n eX6_leastFitting_9 rfl rfl ?_
          refine V_iload_n eX6_leastFitting_10 rfl rfl ?_
          refine V_cvi eX6_leastFitting_11 (c_X6_fits HS ho hb (by omega)) H_this rfl rfl (Nat.le_of_ble_eq_true rfl) ⟨rfl, rfl⟩ ⟨Nat.zero_le _, Nat.zero_le _⟩ ?_
          rw [e1]
          refine V_if_eq (tgt := 19) eX6_leastFitting_14 rfl (by omega) (fun c_14 => ?_) (fun c_14 => ?_)
          · refine V_iinc eX6_leastFitting_19 rfl rfl (eb_sS eb_s0) ?_
            refine V_goto (tgt := 2) eX6_leastFitting_22 rfl ?_
            exact ih (i + 1) (by omega) (by omega) (fun m m1 m2 => by
              rcases Nat.lt_or_ge m i with z | z
              · exact g m m1 z
              · have : m = i := by omega
                subst this
                exact c)
          · exact absurd rfl c_14
  refine V_iconst eX6_leastFitting_0 ?_
  refine V_istore_n eX6_leastFitting_1 rfl (Nat.le_of_ble_eq_true rfl) rfl (eb_sS eb_s0) ?_
  exact loop 200 1 (by omega) (by omega) (fun m m1 m2 => absurd m2 (by omega))
theorem c_X6_greatestFitting {v : Int} (HS : su_at h s fresh sees tb bf) (ho : su_ok sees) (hb : ∀ m, 1 ≤ m → m ≤ 200 → bf m = (bm m : Int) ∧ bm m < 2 ^ 41) (hv : gc (fun m => (1 ≤ m ∧ m ≤ 200) ∧ ft (bm m) sees = true) v) : eb_T mX6_greatestFitting [.ref s] n h (eb_X (some (.int (eb_I v))) n h) := by
  refine eb_T.of (by decide +kernel) (Nat.le_of_ble_eq_true rfl) ?_
  show eb_V _ _ 0 [.ref s, eb_no] [] (n, 0, 0) h _
  have H_this := HS.1
  have loop : ∀ (i : Nat), i ≤ 200 → (∀ m, i < m → m ≤ 200 → ¬ ft (bm m) sees = true) → eb_V mX6_greatestFitting (fun _ _ _ => True) 4 [.ref s, .int (eb_I (i : Int))] [] (n, 0, 0) h (eb_R mX6_greatestFitting (eb_X (some (.int (eb_I v))) n h)) := by
    intro i
    induction i with
    | zero =>
      intro hi g
      have : v = -1 := gc_none hv (fun m hm => g m (by omega) hm.1.2 hm.2)
      subst this
      refine V_iload_n eX6_greatestFitting_4 rfl rfl ?_
      refine V_iconst eX6_greatestFitting_5 ?_
      refine V_icmp_lt (tgt := 25) eX6_greatestFitting_6 rfl (by omega) (fun c_6 => ?_) (fun c_6 => ?_)
      · refine V_iconst eX6_greatestFitting_25 ?_
        exact V_iret eX6_greatestFitting_26 ⟨Nat.zero_le _, Nat.zero_le _⟩ rfl (rfl) (⟨rfl, rfl, rfl⟩)
      · exact absurd (by omega) c_6
    | succ i ih =>
      intro hi g
      by_cases c : ft (bm (i + 1)) sees = true
      · have e1 : su_F bm sees (i + 1) = 1 := by unfold su_F; rw [if_pos c]
        have : v = ((i + 1 : Nat) : Int) := gc_at hv ⟨⟨by omega, by omega⟩, c⟩ (fun m hm => by
          rcases Nat.lt_or_ge (i + 1) m with z | z
          · exact absurd hm.2 (g m z hm.1.2)
          · exact z)
        subst this
        refine V_iload_n eX6_greatestFitting_4 rfl rfl ?_
        refine V_iconst eX6_greatestFitting_5 ?_
        refine V_icmp_lt (tgt := 25) eX6_greatestFitting_6 rfl (by omega) (fun c_6 => ?_) (fun c_6 => ?_)
        · exact absurd c_6 (by omega)
        · refine V_aload_n eX6_greatestFitting_9 rfl rfl ?_
          refine V_iload_n eX6_greatestFitting_10 rfl rfl ?_
          refine V_cvi eX6_greatestFitting_11 (c_X6_fits HS ho hb (by omega)) H_this rfl rfl (Nat.le_of_ble_eq_true rfl) ⟨rfl, rfl⟩ ⟨Nat.zero_le _, Nat.zero_le _⟩ ?_
          rw [e1]
          refine V_if_eq (tgt := 19) eX6_greatestFitting_14 rfl (by omega) (fun c_14 => ?_) (fun c_14 => ?_)
          · exact absurd c_14 (by omega)
          · refine V_iload_n eX6_greatestFitting_17 rfl rfl ?_
            exact V_iret eX6_greatestFitting_18 ⟨Nat.zero_le _, Nat.zero_le _⟩ rfl (rfl) (⟨rfl, rfl, rfl⟩)
      · have e1 : su_F bm sees (i + 1) = 0 := by unfold su_F; rw [if_neg c]
        refine V_iload_n eX6_greatestFitting_4 rfl rfl ?_
        refine V_iconst eX6_greatestFitting_5 ?_
        refine V_icmp_lt (tgt := 25) eX6_greatestFitting_6 rfl (by omega) (fun c_6 => ?_) (fun c_6 => ?_)
        · exact absurd c_6 (by omega)
        · refine V_aload_n eX6_greatestFitting_9 rfl rfl ?_
          refine V_iload_n eX6_greatestFitting_10 rfl rfl ?_
          refine V_cvi eX6_greatestFitting_11 (c_X6_fits HS ho hb (by omega)) H_this rfl rfl (Nat.le_of_ble_eq_true rfl) ⟨rfl, rfl⟩ ⟨Nat.zero_le _, Nat.zero_le _⟩ ?_
          rw [e1]
          refine V_if_eq (tgt := 19) eX6_greatestFitting_14 rfl (by omega) (fun c_14 => ?_) (fun c_14 => ?_)
          · refine V_iinc eX6_greatestFitting_19 rfl rfl (eb_sS eb_s0) ?_
            refine V_goto (tgt := 4) eX6_greatestFitting_22 rfl ?_
            rw [show ((i + 1 : Nat) : Int) + -1 = (i : Int) by omega]
            exact ih (by omega) (fun m m1 m2 => by
              rcases Nat.lt_or_ge (i + 1) m with z | z
              · exact g m z m2
              · have : m = i + 1 := by omega
                subst this
                exact c)
          · exact absurd rfl c_14
  refine V_sipush eX6_greatestFitting_0 (by decide) ?_
  refine V_istore_n eX6_greatestFitting_3 rfl (Nat.le_of_ble_eq_true rfl) rfl (eb_sS eb_s0) ?_
  exact loop 200 (by omega) (fun m m1 m2 => absurd m2 (by omega))
theorem c_X6_fittingThatBegin {e : Nat} (HS : su_at h s fresh sees tb bf) (ho : su_ok sees) (hb : ∀ m, 1 ≤ m → m ≤ 200 → bf m = (bm m : Int) ∧ bm m < 2 ^ 41) (he : e ≤ 40) : eb_T mX6_fittingThatBegin [.ref s, .int (eb_I (e : Int))] n h (eb_X (some (.int (eb_I (sm (su_E bm sees e) 1 200)))) n h) := by
  refine eb_T.of (by decide +kernel) (Nat.le_of_ble_eq_true rfl) ?_
  show eb_V _ _ 0 [.ref s, .int (eb_I (e : Int)), eb_no, eb_no] [] (n, 0, 0) h _
  have H_this := HS.1
  have H_this_beginsBy := HS.2.2
  have loop : ∀ (d i : Nat), i + d = 200 → eb_V mX6_fittingThatBegin (fun _ _ _ => True) 4 [.ref s, .int (eb_I (e : Int)), .int (eb_I (sm (su_E bm sees e) 1 i)), .int (eb_I ((1 + i : Nat) : Int))] [] (n, 0, 0) h (eb_R mX6_fittingThatBegin (eb_X (some (.int (eb_I (sm (su_E bm sees e) 1 200)))) n h)) := by
    intro d
    induction d with
    | zero =>
      intro i hi
      have : i = 200 := by omega
      subst this
      refine V_iload_n eX6_fittingThatBegin_4 rfl rfl ?_
      refine V_sipush eX6_fittingThatBegin_5 (by decide) ?_
      refine V_icmp_gt (tgt := 43) eX6_fittingThatBegin_8 rfl (by omega) (fun c_8 => ?_) (fun c_8 => ?_)
      · refine V_iload_n eX6_fittingThatBegin_43 rfl rfl ?_
        exact V_iret eX6_fittingThatBegin_44 ⟨Nat.zero_le _, Nat.zero_le _⟩ rfl (rfl) (⟨rfl, rfl, rfl⟩)
      · exact absurd (by omega) c_8
    | succ d ih =>
      intro i hi
      have hs := sm_r1 (su_E_r bm sees e) 1 i
      have e1 : sm (su_E bm sees e) 1 (i + 1) = sm (su_E bm sees e) 1 i + su_E bm sees e (1 + i) := rfl
      have nxt := ih (i + 1) (by omega)
      obtain ⟨b1, b2⟩ := hb (1 + i) (by omega) (by omega)
      have e3 : bf ((1 + i : Nat) : Int).toNat = (bm (1 + i) : Int) := by rw [Int.toNat_natCast]; exact b1
      have hd : bm (1 + i) / 2 ^ e ≤ bm (1 + i) := Nat.div_le_self _ _
      have hbit := br_bit (bm (1 + i)) e
      have J : ∀ x : Int, x = sm (su_E bm sees e) 1 (i + 1) → eb_V mX6_fittingThatBegin (fun _ _ _ => True) 37 [.ref s, .int (eb_I (e : Int)), .int (eb_I x), .int (eb_I ((1 + i : Nat) : Int))] [] (n, 0, 0) h (eb_R mX6_fittingThatBegin (eb_X (some (.int (eb_I (sm (su_E bm sees e) 1 200)))) n h)) := by
        intro x hx
        subst hx
        refine V_iinc eX6_fittingThatBegin_37 rfl rfl (eb_sS (eb_sS (eb_sS eb_s0))) ?_
        refine V_goto (tgt := 4) eX6_fittingThatBegin_40 rfl ?_
        exact nxt
      by_cases c : ft (bm (1 + i)) sees = true
      · have e2 : su_F bm sees (1 + i) = 1 := by unfold su_F; rw [if_pos c]
        by_cases c2 : (bm (1 + i)).testBit e = true
        · have e4 : su_E bm sees e (1 + i) = 1 := by unfold su_E; rw [if_pos ⟨c, c2⟩]
          rw [if_pos c2] at hbit
          refine V_iload_n eX6_fittingThatBegin_4 rfl rfl ?_
          refine V_sipush eX6_fittingThatBegin_5 (by decide) ?_
          refine V_icmp_gt (tgt := 43) eX6_fittingThatBegin_8 rfl (by omega) (fun c_8 => ?_) (fun c_8 => ?_)
          · exact absurd c_8 (by omega)
          · refine V_aload_n eX6_fittingThatBegin_11 rfl rfl ?_
            refine V_iload_n eX6_fittingThatBegin_12 rfl rfl ?_
            refine V_cvi eX6_fittingThatBegin_13 (c_X6_fits HS ho hb (by omega)) H_this rfl rfl (Nat.le_of_ble_eq_true rfl) ⟨rfl, rfl⟩ ⟨Nat.zero_le _, Nat.zero_le _⟩ ?_
            rw [e2]
            refine V_if_eq (tgt := 37) eX6_fittingThatBegin_16 rfl (by omega) (fun c_16 => ?_) (fun c_16 => ?_)
            · exact absurd c_16 (by omega)
            · refine V_aload_n eX6_fittingThatBegin_19 rfl rfl ?_
              refine V_getf eX6_fittingThatBegin_20 H_this rfl ?_
              refine V_iload_n eX6_fittingThatBegin_23 rfl rfl ?_
              refine V_lald eX6_fittingThatBegin_24 H_this_beginsBy (by omega) ?_
              rw [e3]
              refine V_iload_n eX6_fittingThatBegin_25 rfl rfl ?_
              refine V_lshr eX6_fittingThatBegin_26 (eb_shr (by omega) (by omega)) ?_
              refine V_lconst (b := 1) eX6_fittingThatBegin_27 (by decide) ?_
              refine V_land eX6_fittingThatBegin_28 (eb_and1 (by omega)) ?_
              rw [hbit]
              refine V_lconst (b := 1) eX6_fittingThatBegin_29 (by decide) ?_
              refine V_lcmpI eX6_fittingThatBegin_30 (by decide) ?_
              refine V_eqI (b := 0) (by decide) ?_
              refine V_if_ne (tgt := 37) eX6_fittingThatBegin_31 rfl (by omega) (fun c_31 => ?_) (fun c_31 => ?_)
              · exact absurd rfl c_31
              · refine V_iinc eX6_fittingThatBegin_34 rfl rfl (eb_sS (eb_sS eb_s0)) ?_
                exact J _ (by omega)
        · have e4 : su_E bm sees e (1 + i) = 0 := by unfold su_E; rw [if_neg (fun q => c2 q.2)]
          rw [if_neg c2] at hbit
          refine V_iload_n eX6_fittingThatBegin_4 rfl rfl ?_
          refine V_sipush eX6_fittingThatBegin_5 (by decide) ?_
          refine V_icmp_gt (tgt := 43) eX6_fittingThatBegin_8 rfl (by omega) (fun c_8 => ?_) (fun c_8 => ?_)
          · exact absurd c_8 (by omega)
          · refine V_aload_n eX6_fittingThatBegin_11 rfl rfl ?_
            refine V_iload_n eX6_fittingThatBegin_12 rfl rfl ?_
            refine V_cvi eX6_fittingThatBegin_13 (c_X6_fits HS ho hb (by omega)) H_this rfl rfl (Nat.le_of_ble_eq_true rfl) ⟨rfl, rfl⟩ ⟨Nat.zero_le _, Nat.zero_le _⟩ ?_
            rw [e2]
            refine V_if_eq (tgt := 37) eX6_fittingThatBegin_16 rfl (by omega) (fun c_16 => ?_) (fun c_16 => ?_)
            · exact absurd c_16 (by omega)
            · refine V_aload_n eX6_fittingThatBegin_19 rfl rfl ?_
              refine V_getf eX6_fittingThatBegin_20 H_this rfl ?_
              refine V_iload_n eX6_fittingThatBegin_23 rfl rfl ?_
              refine V_lald eX6_fittingThatBegin_24 H_this_beginsBy (by omega) ?_
              rw [e3]
              refine V_iload_n eX6_fittingThatBegin_25 rfl rfl ?_
              refine V_lshr eX6_fittingThatBegin_26 (eb_shr (by omega) (by omega)) ?_
              refine V_lconst (b := 1) eX6_fittingThatBegin_27 (by decide) ?_
              refine V_land eX6_fittingThatBegin_28 (eb_and1 (by omega)) ?_
              rw [hbit]
              refine V_lconst (b := 1) eX6_fittingThatBegin_29 (by decide) ?_
              refine V_lcmpI eX6_fittingThatBegin_30 (by decide) ?_
              refine V_if_ne (tgt := 37) eX6_fittingThatBegin_31 rfl (by decide) (fun c_31 => ?_) (fun c_31 => ?_)
              · exact J _ (by omega)
              · exact absurd c_31 (by decide)
      · have e2 : su_F bm sees (1 + i) = 0 := by unfold su_F; rw [if_neg c]
        have e4 : su_E bm sees e (1 + i) = 0 := by unfold su_E; rw [if_neg (fun q => c q.1)]
        refine V_iload_n eX6_fittingThatBegin_4 rfl rfl ?_
        refine V_sipush eX6_fittingThatBegin_5 (by decide) ?_
        refine V_icmp_gt (tgt := 43) eX6_fittingThatBegin_8 rfl (by omega) (fun c_8 => ?_) (fun c_8 => ?_)
        · exact absurd c_8 (by omega)
        · refine V_aload_n eX6_fittingThatBegin_11 rfl rfl ?_
          refine V_iload_n eX6_fittingThatBegin_12 rfl rfl ?_
          refine V_cvi eX6_fittingThatBegin_13 (c_X6_fits HS ho hb (by omega)) H_this rfl rfl (Nat.le_of_ble_eq_true rfl) ⟨rfl, rfl⟩ ⟨Nat.zero_le _, Nat.zero_le _⟩ ?_
          rw [e2]
          refine V_if_eq (tgt := 37) eX6_fittingThatBegin_16 rfl (by omega) (fun c_16 => ?_) (fun c_16 => ?_)
          · exact J _ (by omega)
          · exact absurd rfl c_16
  refine V_iconst eX6_fittingThatBegin_0 ?_
  refine V_istore_n eX6_fittingThatBegin_1 rfl (Nat.le_of_ble_eq_true rfl) rfl (eb_sS (eb_sS eb_s0)) ?_
  refine V_iconst eX6_fittingThatBegin_2 ?_
  refine V_istore_n eX6_fittingThatBegin_3 rfl (Nat.le_of_ble_eq_true rfl) rfl (eb_sS (eb_sS (eb_sS eb_s0))) ?_
  exact loop 200 0 (by omega)
theorem c_X6_look {N : Nat} (HS : su_at h s fresh sees tb bf) (ho : su_ok sees) (hb : ∀ m, 1 ≤ m → m ≤ 200 → bf m = (bm m : Int) ∧ bm m < 2 ^ 41) (hN : N ≤ 40) : eb_T mX6_look [.ref s, .int (eb_I (N : Int))] n h (eb_X (some (.int (eb_I (lk_F (fun e => sm (su_E bm sees e) 1 200) (sm (su_F bm sees) 1 200) (N + 1)).1))) n h) := by
  refine eb_T.of (by decide +kernel) (Nat.le_of_ble_eq_true rfl) ?_
  show eb_V _ _ 0 [.ref s, .int (eb_I (N : Int)), eb_no, eb_no, eb_no, eb_no, eb_no, eb_no] [] (n, 0, 0) h _
  have H_this := HS.1
  have hall := sm_r1 (su_F_r bm sees) 1 200
  have hP : ∀ e, 0 ≤ sm (su_E bm sees e) 1 200 ∧ sm (su_E bm sees e) 1 200 ≤ 200 := fun e => sm_r1 (su_E_r bm sees e) 1 200
  have T0 := c_X6_fitting (n := n) HS ho hb
  have TE : ∀ e : Nat, e ≤ 40 → eb_T mX6_fittingThatBegin [.ref s, .int (eb_I (e : Int))] n h (eb_X (some (.int (eb_I ((fun e => sm (su_E bm sees e) 1 200) e)))) n h) := fun e he => c_X6_fittingThatBegin (n := n) HS ho hb he
  have hP' : ∀ e, 0 ≤ (fun e => sm (su_E bm sees e) 1 200) e ∧ (fun e => sm (su_E bm sees e) 1 200) e ≤ 200 := hP
  generalize (fun e => sm (su_E bm sees e) 1 200) = P at TE hP' ⊢
  generalize sm (su_F bm sees) 1 200 = all at hall T0 ⊢
  have hL : ∀ i, -200 ≤ (lk_F P all i).2 ∧ (lk_F P all i).2 ≤ 200 := fun i => by
    induction i with
    | zero => simp only [lk_F]; omega
    | succ i ih =>
      have := hP' i
      simp only [lk_F]
      split
      · simp only; omega
      · exact ih
  have loop : ∀ (d i : Nat) (x6 x7 : Value), i + d = N + 1 → eb_V mX6_look (fun _ _ _ => True) 13 [.ref s, .int (eb_I (N : Int)), .int (eb_I all), .int (eb_I (lk_F P all i).2), .int (eb_I (lk_F P all i).1), .int (eb_I (i : Int)), x6, x7] [] (n, 0, 0) h (eb_R mX6_look (eb_X (some (.int (eb_I (lk_F P all (N + 1)).1))) n h)) := by
    intro d
    induction d with
    | zero =>
      intro i x6 x7 hi
      have : i = N + 1 := by omega
      subst this
      refine V_iload eX6_look_13 rfl ?_
      refine V_iload_n eX6_look_15 rfl rfl ?_
      refine V_icmp_gt (tgt := 57) eX6_look_16 rfl (by omega) (fun c_16 => ?_) (fun c_16 => ?_)
      · refine V_iload eX6_look_57 rfl ?_
        exact V_iret eX6_look_59 ⟨Nat.zero_le _, Nat.zero_le _⟩ rfl (rfl) (⟨rfl, rfl, rfl⟩)
      · exact absurd (by omega) c_16
    | succ d ih =>
      intro i x6 x7 hi
      have h1 := hL i
      have h2 := hP' i
      have e1 : lk_F P all (i + 1) = if max (P i) (all - P i) < (lk_F P all i).2 then ((i : Int), max (P i) (all - P i)) else lk_F P all i := rfl
      have J : ∀ (x3 x4 : Int) (x6 x7 : Value), x3 = (lk_F P all (i + 1)).2 → x4 = (lk_F P all (i + 1)).1 → eb_V mX6_look (fun _ _ _ => True) 51 [.ref s, .int (eb_I (N : Int)), .int (eb_I all), .int (eb_I x3), .int (eb_I x4), .int (eb_I (i : Int)), x6, x7] [] (n, 0, 0) h (eb_R mX6_look (eb_X (some (.int (eb_I (lk_F P all (N + 1)).1))) n h)) := by
        intro x3 x4 x6 x7 h3 h4
        subst h3
        subst h4
        refine V_iinc eX6_look_51 rfl rfl (eb_sS (eb_sS (eb_sS (eb_sS (eb_sS eb_s0))))) ?_
        refine V_goto (tgt := 13) eX6_look_54 rfl ?_
        exact ih (i + 1) _ _ (by omega)
      refine V_iload eX6_look_13 rfl ?_
      refine V_iload_n eX6_look_15 rfl rfl ?_
      refine V_icmp_gt (tgt := 57) eX6_look_16 rfl (by omega) (fun c_16 => ?_) (fun c_16 => ?_)
      · exact absurd c_16 (by omega)
      · refine V_aload_n eX6_look_19 rfl rfl ?_
        refine V_iload eX6_look_20 rfl ?_
        refine V_cvi eX6_look_22 (TE i (by omega)) H_this rfl rfl (Nat.le_of_ble_eq_true rfl) ⟨rfl, rfl⟩ ⟨Nat.zero_le _, Nat.zero_le _⟩ ?_
        refine V_istore eX6_look_25 (Nat.le_of_ble_eq_true rfl) rfl (eb_sS (eb_sS (eb_sS (eb_sS (eb_sS (eb_sS eb_s0)))))) ?_
        refine V_iload eX6_look_27 rfl ?_
        refine V_iload_n eX6_look_29 rfl rfl ?_
        refine V_iload eX6_look_30 rfl ?_
        refine V_isub eX6_look_32 ?_
        refine V_mmax eX6_look_33 (by omega) (Nat.le_of_ble_eq_true rfl) ⟨Nat.zero_le _, Nat.zero_le _⟩ ?_
        refine V_istore eX6_look_36 (Nat.le_of_ble_eq_true rfl) rfl (eb_sS (eb_sS (eb_sS (eb_sS (eb_sS (eb_sS (eb_sS eb_s0))))))) ?_
        refine V_iload eX6_look_38 rfl ?_
        refine V_iload_n eX6_look_40 rfl rfl ?_
        refine V_icmp_ge (tgt := 51) eX6_look_41 rfl (by omega) (fun c_41 => ?_) (fun c_41 => ?_)
        · exact J _ _ _ _ (by rw [e1, if_neg (by omega)]) (by rw [e1, if_neg (by omega)])
        · refine V_iload eX6_look_44 rfl ?_
          refine V_istore_n eX6_look_46 rfl (Nat.le_of_ble_eq_true rfl) rfl (eb_sS (eb_sS (eb_sS eb_s0))) ?_
          refine V_iload eX6_look_47 rfl ?_
          refine V_istore eX6_look_49 (Nat.le_of_ble_eq_true rfl) rfl (eb_sS (eb_sS (eb_sS (eb_sS eb_s0)))) ?_
          exact J _ _ _ _ (by rw [e1, if_pos (by omega)]) (by rw [e1, if_pos (by omega)])
  refine V_aload_n eX6_look_0 rfl rfl ?_
  refine V_cvi eX6_look_1 (T0) H_this rfl rfl (Nat.le_of_ble_eq_true rfl) ⟨rfl, rfl⟩ ⟨Nat.zero_le _, Nat.zero_le _⟩ ?_
  refine V_istore_n eX6_look_4 rfl (Nat.le_of_ble_eq_true rfl) rfl (eb_sS (eb_sS eb_s0)) ?_
  refine V_iload_n eX6_look_5 rfl rfl ?_
  refine V_istore_n eX6_look_6 rfl (Nat.le_of_ble_eq_true rfl) rfl (eb_sS (eb_sS (eb_sS eb_s0))) ?_
  refine V_iconst eX6_look_7 ?_
  refine V_istore eX6_look_8 (Nat.le_of_ble_eq_true rfl) rfl (eb_sS (eb_sS (eb_sS (eb_sS eb_s0)))) ?_
  refine V_iconst eX6_look_10 ?_
  refine V_istore eX6_look_11 (Nat.le_of_ble_eq_true rfl) rfl (eb_sS (eb_sS (eb_sS (eb_sS (eb_sS eb_s0))))) ?_
  exact loop (N + 1) 0 _ _ (by omega)
theorem c_X6_bestMeasure {a d : Nat} (HS : su_at h s fresh sees tb bf) (ha : 1 ≤ a) (hd : a + d ≤ 200) (ht : ∀ m, 1 ≤ m → m ≤ 200 → 0 ≤ tb m ∧ tb m < 2000000000) : eb_T mX6_bestMeasure [.ref s, .int (eb_I (a : Int)), .int (eb_I ((a + d : Nat) : Int))] n h (eb_X (some (.int (eb_I ((a : Int) + dp_a (fun i => tb (a + i)) (d + 1))))) n h) := by
  refine eb_T.of (by decide +kernel) (Nat.le_of_ble_eq_true rfl) ?_
  show eb_V _ _ 0 [.ref s, .int (eb_I (a : Int)), .int (eb_I ((a + d : Nat) : Int)), eb_no, eb_no] [] (n, 0, 0) h _
  obtain ⟨H_this, H_this_totalBy, H_this_beginsBy⟩ := HS
  have hf : ∀ i, i ≤ d → (fun i => tb (a + i)) i < 2000000000 := fun i hi => (ht (a + i) (by omega) (by omega)).2
  have loop : ∀ (m i : Nat), 1 ≤ i → i + m = d + 1 → eb_V mX6_bestMeasure (fun _ _ _ => True) 7 [.ref s, .int (eb_I (a : Int)), .int (eb_I ((a + d : Nat) : Int)), .int (eb_I ((a : Int) + dp_a (fun i => tb (a + i)) i)), .int (eb_I ((a + i : Nat) : Int))] [] (n, 0, 0) h (eb_R mX6_bestMeasure (eb_X (some (.int (eb_I ((a : Int) + dp_a (fun i => tb (a + i)) (d + 1))))) n h)) := by
    intro m
    induction m with
    | zero =>
      intro i h1 hi
      have : i = d + 1 := by omega
      subst this
      refine V_iload eX6_bestMeasure_7 rfl ?_
      refine V_iload_n eX6_bestMeasure_9 rfl rfl ?_
      refine V_icmp_gt (tgt := 38) eX6_bestMeasure_10 rfl (by omega) (fun c_10 => ?_) (fun c_10 => ?_)
      · refine V_iload_n eX6_bestMeasure_38 rfl rfl ?_
        exact V_iret eX6_bestMeasure_39 ⟨Nat.zero_le _, Nat.zero_le _⟩ rfl (rfl) (⟨rfl, rfl, rfl⟩)
      · exact absurd (by omega) c_10
    | succ m ih =>
      intro i h1 hi
      obtain ⟨k, k1, k2, k3⟩ := dp_has (f := fun i => tb (a + i)) (n := i) (by omega) (fun j hj => hf j (by omega))
      have hk := k1.1
      have e1 : dp_a (fun i => tb (a + i)) (i + 1) = if tb (a + i) < dp_m (fun i => tb (a + i)) i then (i : Int) else dp_a (fun i => tb (a + i)) i := rfl
      have e2 : ((a : Int) + (k : Int)).toNat = a + k := by omega
      have e3 : ((a + i : Nat) : Int).toNat = a + i := Int.toNat_natCast _
      have r1 := ht (a + i) (by omega) (by omega)
      have r2 := ht (a + k) (by omega) (by omega)
      have J : ∀ x : Int, x = (a : Int) + dp_a (fun i => tb (a + i)) (i + 1) → eb_V mX6_bestMeasure (fun _ _ _ => True) 32 [.ref s, .int (eb_I (a : Int)), .int (eb_I ((a + d : Nat) : Int)), .int (eb_I x), .int (eb_I ((a + i : Nat) : Int))] [] (n, 0, 0) h (eb_R mX6_bestMeasure (eb_X (some (.int (eb_I ((a : Int) + dp_a (fun i => tb (a + i)) (d + 1))))) n h)) := by
        intro x hx
        subst hx
        refine V_iinc eX6_bestMeasure_32 rfl rfl (eb_sS (eb_sS (eb_sS (eb_sS eb_s0)))) ?_
        refine V_goto (tgt := 7) eX6_bestMeasure_35 rfl ?_
        exact ih (i + 1) (by omega) (by omega)
      rw [k3]
      refine V_iload eX6_bestMeasure_7 rfl ?_
      refine V_iload_n eX6_bestMeasure_9 rfl rfl ?_
      refine V_icmp_gt (tgt := 38) eX6_bestMeasure_10 rfl (by omega) (fun c_10 => ?_) (fun c_10 => ?_)
      · exact absurd c_10 (by omega)
      · refine V_aload_n eX6_bestMeasure_13 rfl rfl ?_
        refine V_getf eX6_bestMeasure_14 H_this rfl ?_
        refine V_iload eX6_bestMeasure_17 rfl ?_
        refine V_iald eX6_bestMeasure_19 H_this_totalBy (by omega) ?_
        rw [e3]
        refine V_aload_n eX6_bestMeasure_20 rfl rfl ?_
        refine V_getf eX6_bestMeasure_21 H_this rfl ?_
        refine V_iload_n eX6_bestMeasure_24 rfl rfl ?_
        refine V_iald eX6_bestMeasure_25 H_this_totalBy (by omega) ?_
        rw [e2]
        refine V_icmp_ge (tgt := 32) eX6_bestMeasure_26 rfl (by omega) (fun c_26 => ?_) (fun c_26 => ?_)
        · exact J _ (by rw [e1, if_neg (by omega), k3])
        · refine V_iload eX6_bestMeasure_29 rfl ?_
          refine V_istore_n eX6_bestMeasure_31 rfl (Nat.le_of_ble_eq_true rfl) rfl (eb_sS (eb_sS (eb_sS eb_s0))) ?_
          exact J _ (by rw [e1, if_pos (by omega)]; omega)
  have e0 : dp_a (fun i => tb (a + i)) 1 = 0 := by
    exact if_pos (hf 0 (by omega))
  have l1 := loop d 1 (Nat.le_refl _) (by omega)
  rw [e0, Int.add_zero] at l1
  refine V_iload_n eX6_bestMeasure_0 rfl rfl ?_
  refine V_istore_n eX6_bestMeasure_1 rfl (Nat.le_of_ble_eq_true rfl) rfl (eb_sS (eb_sS (eb_sS eb_s0))) ?_
  refine V_iload_n eX6_bestMeasure_2 rfl rfl ?_
  refine V_iconst eX6_bestMeasure_3 ?_
  refine V_iadd eX6_bestMeasure_4 ?_
  refine V_istore eX6_bestMeasure_5 (Nat.le_of_ble_eq_true rfl) rfl (eb_sS (eb_sS (eb_sS (eb_sS eb_s0)))) ?_
  exact l1
theorem c_X6_note {e : Nat} {x : Bool} (HS : su_at h s fresh sees tb bf) (ho : su_ok sees) (he : e ≤ 40) : eb_T mX6_note [.ref s, .int (eb_I (e : Int)), .int (eb_I (if x then 1 else 0))] n h (eb_G (some (.int (eb_I (if 6 ≤ sees.length then -1000000004 else (sees.length : Int) + 1)))) n (fun h' => su_at h' s fresh (if 6 ≤ sees.length then sees else sees ++ [(e, x)]) tb bf ∧ ∀ k, k ≠ s → h' k = h k)) := by
  refine eb_T.of (by decide +kernel) (Nat.le_of_ble_eq_true rfl) ?_
  show eb_V _ _ 0 [.ref s, .int (eb_I (e : Int)), .int (eb_I (if x then 1 else 0))] [] (n, 0, 0) h _
  have HS' := HS
  have hl := ho.1
  have l1 := su_l_lt ho true
  have l0 := su_l_lt ho false
  have hp : (2 : Nat) ^ e < 2 ^ 41 := Nat.pow_lt_pow_right (by decide) (by omega)
  obtain ⟨H_this, H_this_totalBy, H_this_beginsBy⟩ := HS
  by_cases z : 6 ≤ sees.length
  · rw [if_pos z, if_pos z]
    refine V_aload_n eX6_note_0 rfl rfl ?_
    refine V_getf eX6_note_1 H_this rfl ?_
    refine V_bipush eX6_note_4 (by decide) ?_
    refine V_icmp_lt (tgt := 12) eX6_note_6 rfl (by omega) (fun c_6 => ?_) (fun c_6 => ?_)
    · exact absurd c_6 (by omega)
    · refine V_ldc (a := -1000000004) eX6_note_9 wd_667 (by decide) ?_
      exact V_iret eX6_note_11 ⟨Nat.zero_le _, Nat.zero_le _⟩ rfl (rfl) (⟨rfl, rfl, HS', fun _ _ => rfl⟩)
  · rw [if_neg z, if_neg z]
    have el : ((sees ++ [(e, x)]).length : Int) = (sees.length : Int) + 1 := by simp
    cases x with
    | true =>
      have m1 : br_mk (su_l (sees ++ [(e, true)]) true) = br_mk (su_l sees true) ||| 1 * 2 ^ e := by
        rw [Nat.one_mul, ← br_mk_app]
        congr 1
        simp [su_l, List.filter_append]
      have m0 : su_l (sees ++ [(e, true)]) false = su_l sees false := by simp [su_l, List.filter_append]
      show eb_V _ _ 0 [.ref s, .int (eb_I (e : Int)), .int (eb_I 1)] [] (n, 0, 0) h _
      refine V_aload_n eX6_note_0 rfl rfl ?_
      refine V_getf eX6_note_1 H_this rfl ?_
      refine V_bipush eX6_note_4 (by decide) ?_
      refine V_icmp_lt (tgt := 12) eX6_note_6 rfl (by omega) (fun c_6 => ?_) (fun c_6 => ?_)
      · refine V_iload_n eX6_note_12 rfl rfl ?_
        refine V_if_eq (tgt := 31) eX6_note_13 rfl (by omega) (fun c_13 => ?_) (fun c_13 => ?_)
        · exact absurd c_13 (by omega)
        · refine V_aload_n eX6_note_16 rfl rfl ?_
          refine V_dup eX6_note_17 rfl ?_
          refine V_getf eX6_note_18 H_this rfl ?_
          refine V_lconst (b := 1) eX6_note_21 (by decide) ?_
          refine V_iload_n eX6_note_22 rfl rfl ?_
          refine V_lshl eX6_note_23 (eb_shl (a := 1) (by omega)) ?_
          refine V_lor eX6_note_24 (eb_or (by omega) (by omega)) ?_
          refine V_putf eX6_note_25 H_this eb_fitJ (eb_sS (eb_sS (eb_sS (eb_sS eb_s0)))) (Nat.le_of_ble_eq_true rfl) ?_
          refine V_goto (tgt := 43) eX6_note_28 rfl ?_
          refine V_aload_n eX6_note_43 rfl rfl ?_
          refine V_dup eX6_note_44 rfl ?_
          refine V_getf eX6_note_45 eb_up_s rfl ?_
          refine V_iconst eX6_note_48 ?_
          refine V_iadd eX6_note_49 ?_
          refine V_putf eX6_note_50 eb_up_s eb_fitI (eb_sS (eb_sS (eb_sS eb_s0))) (Nat.le_of_ble_eq_true rfl) ?_
          refine V_aload_n eX6_note_53 rfl rfl ?_
          refine V_getf eX6_note_54 eb_up_s rfl ?_
          exact V_iret eX6_note_57 ⟨Nat.zero_le _, Nat.zero_le _⟩ rfl (rfl) (⟨rfl, rfl, ⟨by rw [m1, m0, el]; exact eb_up_s, eb_up_n (by omega) (eb_up_n (by omega) H_this_totalBy), eb_up_n (by omega) (eb_up_n (by omega) H_this_beginsBy)⟩, fun k hk => by rw [eb_up, if_neg hk, eb_up, if_neg hk]⟩)
      · exact absurd (by omega) c_6
    | false =>
      have m0 : br_mk (su_l (sees ++ [(e, false)]) false) = br_mk (su_l sees false) ||| 1 * 2 ^ e := by
        rw [Nat.one_mul, ← br_mk_app]
        congr 1
        simp [su_l, List.filter_append]
      have m1 : su_l (sees ++ [(e, false)]) true = su_l sees true := by simp [su_l, List.filter_append]
      show eb_V _ _ 0 [.ref s, .int (eb_I (e : Int)), .int (eb_I 0)] [] (n, 0, 0) h _
      refine V_aload_n eX6_note_0 rfl rfl ?_
      refine V_getf eX6_note_1 H_this rfl ?_
      refine V_bipush eX6_note_4 (by decide) ?_
      refine V_icmp_lt (tgt := 12) eX6_note_6 rfl (by omega) (fun c_6 => ?_) (fun c_6 => ?_)
      · refine V_iload_n eX6_note_12 rfl rfl ?_
        refine V_if_eq (tgt := 31) eX6_note_13 rfl (by omega) (fun c_13 => ?_) (fun c_13 => ?_)
        · refine V_aload_n eX6_note_31 rfl rfl ?_
          refine V_dup eX6_note_32 rfl ?_
          refine V_getf eX6_note_33 H_this rfl ?_
          refine V_lconst (b := 1) eX6_note_36 (by decide) ?_
          refine V_iload_n eX6_note_37 rfl rfl ?_
          refine V_lshl eX6_note_38 (eb_shl (a := 1) (by omega)) ?_
          refine V_lor eX6_note_39 (eb_or (by omega) (by omega)) ?_
          refine V_putf eX6_note_40 H_this eb_fitJ (eb_sS (eb_sS (eb_sS (eb_sS (eb_sS eb_s0))))) (Nat.le_of_ble_eq_true rfl) ?_
          refine V_aload_n eX6_note_43 rfl rfl ?_
          refine V_dup eX6_note_44 rfl ?_
          refine V_getf eX6_note_45 eb_up_s rfl ?_
          refine V_iconst eX6_note_48 ?_
          refine V_iadd eX6_note_49 ?_
          refine V_putf eX6_note_50 eb_up_s eb_fitI (eb_sS (eb_sS (eb_sS eb_s0))) (Nat.le_of_ble_eq_true rfl) ?_
          refine V_aload_n eX6_note_53 rfl rfl ?_
          refine V_getf eX6_note_54 eb_up_s rfl ?_
          exact V_iret eX6_note_57 ⟨Nat.zero_le _, Nat.zero_le _⟩ rfl (rfl) (⟨rfl, rfl, ⟨by rw [m1, m0, el]; exact eb_up_s, eb_up_n (by omega) (eb_up_n (by omega) H_this_totalBy), eb_up_n (by omega) (eb_up_n (by omega) H_this_beginsBy)⟩, fun k hk => by rw [eb_up, if_neg hk, eb_up, if_neg hk]⟩)
        · exact absurd rfl c_13
      · exact absurd (by omega) c_6
theorem c_X6_forget (HS : su_at h s fresh sees tb bf) : eb_T mX6_forget [.ref s] n h (eb_G none n (fun h' => su_at h' s fresh [] tb bf ∧ ∀ k, k ≠ s → h' k = h k)) := by
  refine eb_T.of (by decide +kernel) (Nat.le_of_ble_eq_true rfl) ?_
  show eb_V _ _ 0 [.ref s] [] (n, 0, 0) h _
  obtain ⟨H_this, H_this_totalBy, H_this_beginsBy⟩ := HS
  refine V_aload_n eX6_forget_0 rfl rfl ?_
  refine V_iconst eX6_forget_1 ?_
  refine V_putf eX6_forget_2 H_this eb_fitI (eb_sS (eb_sS (eb_sS eb_s0))) (Nat.le_of_ble_eq_true rfl) ?_
  refine V_aload_n eX6_forget_5 rfl rfl ?_
  refine V_lconst (b := 0) eX6_forget_6 (by decide) ?_
  refine V_putf eX6_forget_7 eb_up_s eb_fitJ (eb_sS (eb_sS (eb_sS (eb_sS eb_s0)))) (Nat.le_of_ble_eq_true rfl) ?_
  refine V_aload_n eX6_forget_10 rfl rfl ?_
  refine V_lconst (b := 0) eX6_forget_11 (by decide) ?_
  refine V_putf eX6_forget_12 eb_up_s eb_fitJ (eb_sS (eb_sS (eb_sS (eb_sS (eb_sS eb_s0))))) (Nat.le_of_ble_eq_true rfl) ?_
  exact V_vret eX6_forget_15 ⟨Nat.zero_le _, Nat.zero_le _⟩ rfl (⟨rfl, rfl, ⟨eb_up_s, eb_up_n (by omega) (eb_up_n (by omega) (eb_up_n (by omega) H_this_totalBy)), eb_up_n (by omega) (eb_up_n (by omega) (eb_up_n (by omega) H_this_beginsBy))⟩, fun k hk => by rw [eb_up, if_neg hk, eb_up, if_neg hk, eb_up, if_neg hk]⟩)
/-- the text by all measures -/
def su_by (N : Nat) (wf : Nat → Int) (law fee fr : Int) (m : Nat) : lt_Q := (N, wf, (m : Int), law, fee, fr)
theorem c_X6_fill {b rt N bg : Nat} {me law fee fr lines : Int} {pl to ow lb ro : Nat → Int} {wf : Nat → Int} (HS : su_at h s fresh sees tb bf) (HL : ly_at h b rt N me law fee fr lines bg pl to ow lb ro) (hrt : rt < b) (hq : lt_ok (N, wf, me, law, fee, fr)) (hpl : ∀ k, k ≤ N → pl k = lt_pl wf k) (hsb : s + 2 < b ∨ b + 5 < s) (hrs : rt < s ∨ s + 2 < rt) :
    eb_T mX6_fill [.ref s, .ref b] n h (eb_G none n (fun h' => ((∃ tb' bf', su_at h' s 1 sees tb' bf' ∧ ∀ m, 1 ≤ m → m ≤ 200 → tb' m = dp_t (lt_c (su_by N wf law fee fr m)) N ∧ bf' m = (br_mk (lt_B (su_by N wf law fee fr m)) : Int)) ∧ ∃ me' lines' bg' pl' to' ow' lb' ro', ly_at h' b rt N me' law fee fr lines' bg' pl' to' ow' lb' ro') ∧ ∀ k, ((k < s ∨ s + 2 < k) ∧ (k < b ∨ b + 5 < k)) → h' k = h k)) := by
  refine eb_T.of (by decide +kernel) (Nat.le_of_ble_eq_true rfl) ?_
  show eb_V _ _ 0 [.ref s, .ref b, eb_no] [] (n, 0, 0) h _
  have hN : N ≤ 40 := hq.1.1
  generalize hG : (fun h' => ((∃ tb' bf', su_at h' s 1 sees tb' bf' ∧ ∀ m, 1 ≤ m → m ≤ 200 → tb' m = dp_t (lt_c (su_by N wf law fee fr m)) N ∧ bf' m = (br_mk (lt_B (su_by N wf law fee fr m)) : Int)) ∧ ∃ me' lines' bg' pl' to' ow' lb' ro', ly_at h' b rt N me' law fee fr lines' bg' pl' to' ow' lb' ro') ∧ ∀ k, ((k < s ∨ s + 2 < k) ∧ (k < b ∨ b + 5 < k)) → h' k = h k) = G
  have loop : ∀ (d i : Nat) (h1 : eb_H) (tb1 bf1 : Nat → Int) (me1 lines1 : Int) (bg1 : Nat) (pl1 to1 ow1 lb1 ro1 : Nat → Int), 1 ≤ i → i + d = 201 → su_at h1 s fresh sees tb1 bf1 → ly_at h1 b rt N me1 law fee fr lines1 bg1 pl1 to1 ow1 lb1 ro1 → (∀ k, k ≤ N → pl1 k = lt_pl wf k) → (∀ m, 1 ≤ m → m < i → tb1 m = dp_t (lt_c (su_by N wf law fee fr m)) N ∧ bf1 m = (br_mk (lt_B (su_by N wf law fee fr m)) : Int)) → (∀ k, ((k < s ∨ s + 2 < k) ∧ (k < b ∨ b + 5 < k)) → h1 k = h k) → eb_V mX6_fill (fun _ _ _ => True) 2 [.ref s, .ref b, .int (eb_I (i : Int))] [] (n, 0, 0) h1 (eb_R mX6_fill (eb_G none n G)) := by
    intro d
    induction d with
    | zero =>
      intro i h1 tb1 bf1 me1 lines1 bg1 pl1 to1 ow1 lb1 ro1 hi hid HS1 HL1 hpl1 g hfr
      obtain ⟨H_this, H_this_totalBy, H_this_beginsBy⟩ := HS1
      obtain ⟨a0, a1, a2, a3, a4, a5, a6⟩ := HL1
      refine V_iload_n eX6_fill_2 rfl rfl ?_
      refine V_sipush eX6_fill_3 (by decide) ?_
      refine V_icmp_gt (tgt := 44) eX6_fill_6 rfl (by omega) (fun c_6 => ?_) (fun c_6 => ?_)
      · refine V_aload_n eX6_fill_44 rfl rfl ?_
        refine V_iconst eX6_fill_45 ?_
        refine V_putf eX6_fill_46 H_this (eb_fitZ (Or.inr rfl)) (eb_sS (eb_sS eb_s0)) (Nat.le_of_ble_eq_true rfl) ?_
        exact V_vret eX6_fill_49 ⟨Nat.zero_le _, Nat.zero_le _⟩ rfl (⟨rfl, rfl, by rw [← hG]; exact ⟨⟨⟨tb1, bf1, ⟨eb_up_s, eb_up_n (by omega) H_this_totalBy, eb_up_n (by omega) H_this_beginsBy⟩, fun m m1 m2 => g m m1 (by omega)⟩, me1, lines1, bg1, pl1, to1, ow1, lb1, ro1, eb_up_n (by omega) a0, eb_up_n (by omega) a1, eb_up_n (by omega) a2, eb_up_n (by omega) a3, eb_up_n (by omega) a4, eb_up_n (by omega) a5, eb_up_n (by omega) a6⟩, fun k hk => by rw [eb_up, if_neg (by omega)]; exact hfr k hk⟩⟩)
      · exact absurd (by omega) c_6
    | succ d ih =>
      intro i h1 tb1 bf1 me1 lines1 bg1 pl1 to1 ow1 lb1 ro1 hi hid HS1 HL1 hpl1 g hfr
      have hqi : lt_ok (N, wf, (i : Int), law, fee, fr) := ⟨⟨hN, ⟨by show (1 : Int) ≤ i; omega, by show (i : Int) ≤ 200; omega⟩, hq.1.2.2⟩, hq.2⟩
      have HLi := ly_u0 (N' := N) (bg' := bg1) (me' := (i : Int)) (law' := law) (fee' := fee) (fr' := fr) (lines' := lines1) HL1 hrt
      have TS := c_X3_solve (n := n) HLi hrt hqi hpl1
      obtain ⟨H_this, H_this_totalBy, H_this_beginsBy⟩ := HS1
      obtain ⟨H_p1, a1, a2, a3, a4, a5, a6⟩ := HL1
      refine V_iload_n eX6_fill_2 rfl rfl ?_
      refine V_sipush eX6_fill_3 (by decide) ?_
      refine V_icmp_gt (tgt := 44) eX6_fill_6 rfl (by omega) (fun c_6 => ?_) (fun c_6 => ?_)
      · exact absurd c_6 (by omega)
      · refine V_aload_n eX6_fill_9 rfl rfl ?_
        refine V_iload_n eX6_fill_10 rfl rfl ?_
        refine V_putf eX6_fill_11 H_p1 eb_fitI (eb_sS (eb_sS (eb_sS (eb_sS (eb_sS (eb_sS (eb_sS eb_s0))))))) (Nat.le_of_ble_eq_true rfl) ?_
        refine V_aload_n eX6_fill_14 rfl rfl ?_
        refine V_cvg eX6_fill_15 (TS) eb_up_s rfl rfl (Nat.le_of_ble_eq_true rfl) ⟨rfl, rfl⟩ ⟨Nat.zero_le _, Nat.zero_le _⟩ (fun h2 ⟨⟨pl2, to2, ow2, lb2, HL2, hpl2, hto2, how2, hlb2⟩, hfr2⟩ => ?_)
        show eb_V _ _ 18 _ [] _ _ _
        have kp : ∀ k, (k < b ∨ b + 5 < k) → h2 k = h1 k := fun k hk => (hfr2 k hk).trans (by rw [eb_up, if_neg (by omega)])
        have H_this : h2 s = _ := (kp s (by omega)).trans H_this
        have H_this_totalBy : h2 (s + 1) = _ := (kp (s + 1) (by omega)).trans H_this_totalBy
        have H_this_beginsBy : h2 (s + 2) = _ := (kp (s + 2) (by omega)).trans H_this_beginsBy
        have H_p1 := HL2.1
        refine V_aload_n eX6_fill_18 rfl rfl ?_
        refine V_getf eX6_fill_19 H_this rfl ?_
        refine V_iload_n eX6_fill_22 rfl rfl ?_
        refine V_aload_n eX6_fill_23 rfl rfl ?_
        refine V_cvi eX6_fill_24 (c_X3_lastTotal HL2 hN) H_p1 rfl rfl (Nat.le_of_ble_eq_true rfl) ⟨rfl, rfl⟩ ⟨Nat.zero_le _, Nat.zero_le _⟩ ?_
        rw [hto2 N (Nat.le_refl _)]
        refine V_iast eX6_fill_27 H_this_totalBy (by omega) ?_
        refine V_aload_n eX6_fill_28 rfl rfl ?_
        refine V_getf eX6_fill_29 (eb_up_n (by omega) H_this) rfl ?_
        refine V_iload_n eX6_fill_32 rfl rfl ?_
        refine V_aload_n eX6_fill_33 rfl rfl ?_
        refine V_getf eX6_fill_34 (eb_up_n (by omega) H_p1) rfl ?_
        refine V_last eX6_fill_37 (eb_up_n (by omega) H_this_beginsBy) (by omega) ?_
        refine V_iinc eX6_fill_38 rfl rfl (eb_sS (eb_sS eb_s0)) ?_
        refine V_goto (tgt := 2) eX6_fill_41 rfl ?_
        obtain ⟨b0, b1, b2, b3, b4, b5, b6⟩ := HL2
        rw [Int.toNat_natCast]
        refine ih (i + 1) _ (eb_set tb1 i (dp_t (lt_c (su_by N wf law fee fr i)) N)) (eb_set bf1 i (br_mk (lt_B (su_by N wf law fee fr i)) : Int)) (i : Int) _ _ pl2 to2 ow2 lb2 ro1 (by omega) (by omega) ⟨eb_up_n (by omega) (eb_up_n (by omega) H_this), eb_up_n (by omega) eb_up_s, eb_up_s⟩ ⟨eb_up_n (by omega) (eb_up_n (by omega) b0), eb_up_n (by omega) (eb_up_n (by omega) b1), eb_up_n (by omega) (eb_up_n (by omega) b2), eb_up_n (by omega) (eb_up_n (by omega) b3), eb_up_n (by omega) (eb_up_n (by omega) b4), eb_up_n (by omega) (eb_up_n (by omega) b5), eb_up_n (by omega) (eb_up_n (by omega) b6)⟩ hpl2 (fun m m1 m2 => ?_) (fun k hk => ?_)
        · unfold eb_set
          by_cases c : m = i
          · rw [if_pos c, if_pos c, c]
            exact ⟨rfl, rfl⟩
          · rw [if_neg c, if_neg c]
            exact g m m1 (by omega)
        · rw [eb_up, if_neg (by omega), eb_up, if_neg (by omega)]
          exact (kp k hk.2).trans (hfr k hk)
  refine V_iconst eX6_fill_0 ?_
  refine V_istore_n eX6_fill_1 rfl (Nat.le_of_ble_eq_true rfl) rfl (eb_sS (eb_sS eb_s0)) ?_
  exact loop 200 1 h tb bf me lines bg pl to ow lb ro (Nat.le_refl _) (by omega) HS HL hpl (fun m m1 m2 => absurd m2 (by omega)) (fun _ _ => rfl)
end SUS
