/-! letters: their widths; words as longs -/
def sp_lw (c : Int) : Int := if c = 102 ∨ c = 105 ∨ c = 106 ∨ c = 108 ∨ c = 114 ∨ c = 116 then 1 else if c = 109 ∨ c = 119 then 3 else 2
theorem c_X5_letterWidth {n : Nat} {h : eb_H} {c : Int} (hc : -2147483648 ≤ c ∧ c ≤ 2147483647) : eb_T mX5_letterWidth [.int (eb_I c)] n h (eb_X (some (.int (eb_I (sp_lw c)))) n h) := by
  refine eb_T.of (by decide +kernel) (Nat.le_of_ble_eq_true rfl) ?_
  show eb_V _ _ 0 [.int (eb_I c)] [] (n, 0, 0) h _
  by_cases h1 : c < 102 ∨ 119 < c
  · have e1 : sp_lw c = 2 := by unfold sp_lw; rw [if_neg (by omega), if_neg (by omega)]
    rw [e1]
    refine V_iload_n eX5_letterWidth_0 rfl rfl ?_
    refine V_tswOut (tgt := 92) eX5_letterWidth_1 (by omega) (h1) rfl ?_
    refine V_iconst eX5_letterWidth_92 ?_
    exact V_iret eX5_letterWidth_93 ⟨Nat.zero_le _, Nat.zero_le _⟩ rfl (rfl) (⟨rfl, rfl, rfl⟩)
  · obtain rfl | rfl | rfl | rfl | rfl | rfl | rfl | rfl | rfl | rfl | rfl | rfl | rfl | rfl | rfl | rfl | rfl | rfl : c = 102 ∨ c = 103 ∨ c = 104 ∨ c = 105 ∨ c = 106 ∨ c = 107 ∨ c = 108 ∨ c = 109 ∨ c = 110 ∨ c = 111 ∨ c = 112 ∨ c = 113 ∨ c = 114 ∨ c = 115 ∨ c = 116 ∨ c = 117 ∨ c = 118 ∨ c = 119 := by omega
    · refine V_iload_n eX5_letterWidth_0 rfl rfl ?_
      refine V_tswIn (tgt := 88) (off := 87) eX5_letterWidth_1 (by omega) (by omega) rfl rfl ?_
      refine V_iconst eX5_letterWidth_88 ?_
      exact V_iret eX5_letterWidth_89 ⟨Nat.zero_le _, Nat.zero_le _⟩ rfl (rfl) (⟨rfl, rfl, rfl⟩)
    · refine V_iload_n eX5_letterWidth_0 rfl rfl ?_
      refine V_tswIn (tgt := 92) (off := 91) eX5_letterWidth_1 (by omega) (by omega) rfl rfl ?_
      refine V_iconst eX5_letterWidth_92 ?_
      exact V_iret eX5_letterWidth_93 ⟨Nat.zero_le _, Nat.zero_le _⟩ rfl (rfl) (⟨rfl, rfl, rfl⟩)
    · refine V_iload_n eX5_letterWidth_0 rfl rfl ?_
      refine V_tswIn (tgt := 92) (off := 91) eX5_letterWidth_1 (by omega) (by omega) rfl rfl ?_
      refine V_iconst eX5_letterWidth_92 ?_
      exact V_iret eX5_letterWidth_93 ⟨Nat.zero_le _, Nat.zero_le _⟩ rfl (rfl) (⟨rfl, rfl, rfl⟩)
    · refine V_iload_n eX5_letterWidth_0 rfl rfl ?_
      refine V_tswIn (tgt := 88) (off := 87) eX5_letterWidth_1 (by omega) (by omega) rfl rfl ?_
      refine V_iconst eX5_letterWidth_88 ?_
      exact V_iret eX5_letterWidth_89 ⟨Nat.zero_le _, Nat.zero_le _⟩ rfl (rfl) (⟨rfl, rfl, rfl⟩)
    · refine V_iload_n eX5_letterWidth_0 rfl rfl ?_
      refine V_tswIn (tgt := 88) (off := 87) eX5_letterWidth_1 (by omega) (by omega) rfl rfl ?_
      refine V_iconst eX5_letterWidth_88 ?_
      exact V_iret eX5_letterWidth_89 ⟨Nat.zero_le _, Nat.zero_le _⟩ rfl (rfl) (⟨rfl, rfl, rfl⟩)
    · refine V_iload_n eX5_letterWidth_0 rfl rfl ?_
      refine V_tswIn (tgt := 92) (off := 91) eX5_letterWidth_1 (by omega) (by omega) rfl rfl ?_
      refine V_iconst eX5_letterWidth_92 ?_
      exact V_iret eX5_letterWidth_93 ⟨Nat.zero_le _, Nat.zero_le _⟩ rfl (rfl) (⟨rfl, rfl, rfl⟩)
    · refine V_iload_n eX5_letterWidth_0 rfl rfl ?_
      refine V_tswIn (tgt := 88) (off := 87) eX5_letterWidth_1 (by omega) (by omega) rfl rfl ?_
      refine V_iconst eX5_letterWidth_88 ?_
      exact V_iret eX5_letterWidth_89 ⟨Nat.zero_le _, Nat.zero_le _⟩ rfl (rfl) (⟨rfl, rfl, rfl⟩)
    · refine V_iload_n eX5_letterWidth_0 rfl rfl ?_
      refine V_tswIn (tgt := 90) (off := 89) eX5_letterWidth_1 (by omega) (by omega) rfl rfl ?_
      refine V_iconst eX5_letterWidth_90 ?_
      exact V_iret eX5_letterWidth_91 ⟨Nat.zero_le _, Nat.zero_le _⟩ rfl (rfl) (⟨rfl, rfl, rfl⟩)
    · refine V_iload_n eX5_letterWidth_0 rfl rfl ?_
      refine V_tswIn (tgt := 92) (off := 91) eX5_letterWidth_1 (by omega) (by omega) rfl rfl ?_
      refine V_iconst eX5_letterWidth_92 ?_
      exact V_iret eX5_letterWidth_93 ⟨Nat.zero_le _, Nat.zero_le _⟩ rfl (rfl) (⟨rfl, rfl, rfl⟩)
    · refine V_iload_n eX5_letterWidth_0 rfl rfl ?_
      refine V_tswIn (tgt := 92) (off := 91) eX5_letterWidth_1 (by omega) (by omega) rfl rfl ?_
      refine V_iconst eX5_letterWidth_92 ?_
      exact V_iret eX5_letterWidth_93 ⟨Nat.zero_le _, Nat.zero_le _⟩ rfl (rfl) (⟨rfl, rfl, rfl⟩)
    · refine V_iload_n eX5_letterWidth_0 rfl rfl ?_
      refine V_tswIn (tgt := 92) (off := 91) eX5_letterWidth_1 (by omega) (by omega) rfl rfl ?_
      refine V_iconst eX5_letterWidth_92 ?_
      exact V_iret eX5_letterWidth_93 ⟨Nat.zero_le _, Nat.zero_le _⟩ rfl (rfl) (⟨rfl, rfl, rfl⟩)
    · refine V_iload_n eX5_letterWidth_0 rfl rfl ?_
      refine V_tswIn (tgt := 92) (off := 91) eX5_letterWidth_1 (by omega) (by omega) rfl rfl ?_
      refine V_iconst eX5_letterWidth_92 ?_
      exact V_iret eX5_letterWidth_93 ⟨Nat.zero_le _, Nat.zero_le _⟩ rfl (rfl) (⟨rfl, rfl, rfl⟩)
    · refine V_iload_n eX5_letterWidth_0 rfl rfl ?_
      refine V_tswIn (tgt := 88) (off := 87) eX5_letterWidth_1 (by omega) (by omega) rfl rfl ?_
      refine V_iconst eX5_letterWidth_88 ?_
      exact V_iret eX5_letterWidth_89 ⟨Nat.zero_le _, Nat.zero_le _⟩ rfl (rfl) (⟨rfl, rfl, rfl⟩)
    · refine V_iload_n eX5_letterWidth_0 rfl rfl ?_
      refine V_tswIn (tgt := 92) (off := 91) eX5_letterWidth_1 (by omega) (by omega) rfl rfl ?_
      refine V_iconst eX5_letterWidth_92 ?_
      exact V_iret eX5_letterWidth_93 ⟨Nat.zero_le _, Nat.zero_le _⟩ rfl (rfl) (⟨rfl, rfl, rfl⟩)
    · refine V_iload_n eX5_letterWidth_0 rfl rfl ?_
      refine V_tswIn (tgt := 88) (off := 87) eX5_letterWidth_1 (by omega) (by omega) rfl rfl ?_
      refine V_iconst eX5_letterWidth_88 ?_
      exact V_iret eX5_letterWidth_89 ⟨Nat.zero_le _, Nat.zero_le _⟩ rfl (rfl) (⟨rfl, rfl, rfl⟩)
    · refine V_iload_n eX5_letterWidth_0 rfl rfl ?_
      refine V_tswIn (tgt := 92) (off := 91) eX5_letterWidth_1 (by omega) (by omega) rfl rfl ?_
      refine V_iconst eX5_letterWidth_92 ?_
      exact V_iret eX5_letterWidth_93 ⟨Nat.zero_le _, Nat.zero_le _⟩ rfl (rfl) (⟨rfl, rfl, rfl⟩)
    · refine V_iload_n eX5_letterWidth_0 rfl rfl ?_
      refine V_tswIn (tgt := 92) (off := 91) eX5_letterWidth_1 (by omega) (by omega) rfl rfl ?_
      refine V_iconst eX5_letterWidth_92 ?_
      exact V_iret eX5_letterWidth_93 ⟨Nat.zero_le _, Nat.zero_le _⟩ rfl (rfl) (⟨rfl, rfl, rfl⟩)
    · refine V_iload_n eX5_letterWidth_0 rfl rfl ?_
      refine V_tswIn (tgt := 90) (off := 89) eX5_letterWidth_1 (by omega) (by omega) rfl rfl ?_
      refine V_iconst eX5_letterWidth_90 ?_
      exact V_iret eX5_letterWidth_91 ⟨Nat.zero_le _, Nat.zero_le _⟩ rfl (rfl) (⟨rfl, rfl, rfl⟩)
def sp_enc : List Nat → Nat
  | [] => 0
  | c :: t => (c - 96) + 32 * sp_enc t
def sp_ok (l : List Nat) : Prop := (∀ c ∈ l, 97 ≤ c ∧ c ≤ 122) ∧ l.length ≤ 12
def sp_at (l : List Nat) (i : Nat) : Int := match l[i]? with
  | some c => (c : Int)
  | none => -1
def sp_ww (l : List Nat) : Int := (l.map (fun c : Nat => sp_lw (c : Int))).sum
theorem sp_enc_lt (l : List Nat) (h : ∀ c ∈ l, 97 ≤ c ∧ c ≤ 122) : sp_enc l < 32 ^ l.length := by
  induction l with
  | nil => decide
  | cons c t ih =>
    have h1 := ih (fun x hx => h x (List.mem_cons_of_mem _ hx))
    have h2 := h c List.mem_cons_self
    simp only [sp_enc, List.length_cons, Nat.pow_succ]
    omega
theorem sp_enc_at (l : List Nat) (h : ∀ c ∈ l, 97 ≤ c ∧ c ≤ 122) (i : Nat) : sp_enc l / 32 ^ i % 32 = match l[i]? with
    | some c => c - 96
    | none => 0 := by
  induction l generalizing i with
  | nil => simp [sp_enc]
  | cons c t ih =>
    have h2 := h c List.mem_cons_self
    cases i with
    | zero =>
      simp only [sp_enc, Nat.pow_zero, Nat.div_one, List.getElem?_cons_zero]
      have h3 : c - 96 ≤ 26 := by omega
      generalize c - 96 = d at h3 ⊢
      omega
    | succ i =>
      simp only [List.getElem?_cons_succ]
      rw [← ih (fun x hx => h x (List.mem_cons_of_mem _ hx)) i, Nat.pow_succ, Nat.mul_comm, ← Nat.div_div_eq_div_mul]
      congr 2
      simp only [sp_enc]
      have h3 : c - 96 ≤ 26 := by omega
      generalize c - 96 = d at h3 ⊢
      omega
theorem sp_enc_app (l : List Nat) (c : Nat) : sp_enc (l ++ [c]) = sp_enc l + 32 ^ l.length * (c - 96) := by
  induction l with
  | nil => simp [sp_enc]
  | cons a t ih =>
    simp only [List.cons_append, sp_enc, ih, List.length_cons, Nat.pow_succ, Nat.mul_add]
    rw [show 32 ^ t.length * 32 * (c - 96) = 32 * (32 ^ t.length * (c - 96)) by rw [Nat.mul_comm (32 ^ t.length) 32, Nat.mul_assoc]]
    omega
theorem sp_enc_62 {l : List Nat} (h : sp_ok l) : sp_enc l < 2 ^ 60 := by
  have h1 := sp_enc_lt l h.1
  have h2 : 32 ^ l.length ≤ 32 ^ 12 := Nat.pow_le_pow_right (by decide) h.2
  have h3 : (32 : Nat) ^ 12 = 2 ^ 60 := by decide
  omega
theorem c_X5_withLetter {n : Nat} {h : eb_H} {l : List Nat} {c : Nat} (hl : sp_ok l) (hn : l.length < 12) (hc : 97 ≤ c ∧ c ≤ 122) : eb_T mX5_withLetter [.long (eb_J (sp_enc l : Int)), .int (eb_I (l.length : Int)), .int (eb_I (c : Int))] n h (eb_X (some (.long (eb_J (sp_enc (l ++ [c]) : Int)))) n h) := by
  refine eb_T.of (by decide +kernel) (Nat.le_of_ble_eq_true rfl) ?_
  show eb_V _ _ 0 [.long (eb_J (sp_enc l : Int)), eb_no, .int (eb_I (l.length : Int)), .int (eb_I (c : Int))] [] (n, 0, 0) h _
  have hlt := sp_enc_lt l hl.1
  have h62 := sp_enc_62 hl
  have hp : (32 : Nat) ^ l.length = 2 ^ (5 * l.length) := by rw [Nat.pow_mul]
  have hb : (c - 96) * 2 ^ (5 * l.length) < 2 ^ 60 := by
    have h3 : 2 ^ (5 * l.length) ≤ 2 ^ 55 := Nat.pow_le_pow_right (by decide) (by omega)
    have h4 : (c - 96) * 2 ^ (5 * l.length) ≤ 31 * 2 ^ 55 := Nat.mul_le_mul (by omega) h3
    omega
  have e1 : sp_enc l ||| (c - 96) * 2 ^ (5 * l.length) = sp_enc (l ++ [c]) := by
    rw [sp_enc_app, hp, Nat.add_comm, Nat.two_pow_add_eq_or_of_lt (by rw [← hp]; exact hlt), Nat.or_comm, Nat.mul_comm]
  refine V_lload_n eX5_withLetter_0 rfl rfl ?_
  refine V_iload_n eX5_withLetter_1 rfl rfl ?_
  refine V_bipush eX5_withLetter_2 (by decide) ?_
  refine V_isub eX5_withLetter_4 ?_
  refine V_iconst eX5_withLetter_5 ?_
  refine V_iadd eX5_withLetter_6 ?_
  refine V_eqI (b := ((c - 96 : Nat) : Int)) (by omega) ?_
  refine V_i2lI eX5_withLetter_7 (by omega) ?_
  refine V_iconst eX5_withLetter_8 ?_
  refine V_iload_n eX5_withLetter_9 rfl rfl ?_
  refine V_imul eX5_withLetter_10 ?_
  refine V_eqI (b := ((5 * l.length : Nat) : Int)) (by omega) ?_
  refine V_lshl eX5_withLetter_11 (eb_shl (by omega)) ?_
  refine V_lor eX5_withLetter_12 (eb_or (by omega) (by omega)) ?_
  exact V_lret eX5_withLetter_13 ⟨Nat.zero_le _, Nat.zero_le _⟩ rfl (⟨by rw [e1], rfl, rfl⟩)
theorem c_X5_letterAt {n : Nat} {h : eb_H} {l : List Nat} {i : Nat} (hl : sp_ok l) (hi : i < 12) : eb_T mX5_letterAt [.long (eb_J (sp_enc l : Int)), .int (eb_I (i : Int))] n h (eb_X (some (.int (eb_I (sp_at l i)))) n h) := by
  refine eb_T.of (by decide +kernel) (Nat.le_of_ble_eq_true rfl) ?_
  show eb_V _ _ 0 [.long (eb_J (sp_enc l : Int)), eb_no, .int (eb_I (i : Int)), eb_no] [] (n, 0, 0) h _
  have h62 := sp_enc_62 hl
  have hp : (32 : Nat) ^ i = 2 ^ (5 * i) := by rw [Nat.pow_mul]
  have e1 := sp_enc_at l hl.1 i
  rw [hp] at e1
  cases hc : l[i]? with
  | none =>
    rw [hc] at e1
    have e2 : sp_at l i = -1 := by simp [sp_at, hc]
    rw [e2]
    refine V_lload_n eX5_letterAt_0 rfl rfl ?_
    refine V_iconst eX5_letterAt_1 ?_
    refine V_iload_n eX5_letterAt_2 rfl rfl ?_
    refine V_imul eX5_letterAt_3 ?_
    refine V_eqI (b := ((5 * i : Nat) : Int)) (by omega) ?_
    refine V_lshr eX5_letterAt_4 (eb_shr (by omega) (by omega)) ?_
    refine V_l2iI eX5_letterAt_5 ?_
    refine V_bipush eX5_letterAt_6 (by decide) ?_
    refine V_iand eX5_letterAt_8 (eb_and31 _) ?_
    refine V_eqI (b := 0) (by simp only at e1; omega) ?_
    refine V_istore_n eX5_letterAt_9 rfl (Nat.le_of_ble_eq_true rfl) rfl (eb_sS (eb_sS (eb_sS eb_s0))) ?_
    refine V_iload_n eX5_letterAt_10 rfl rfl ?_
    refine V_if_ne (tgt := 18) eX5_letterAt_11 rfl (by omega) (fun c_11 => absurd rfl c_11) (fun c_11 => ?_)
    refine V_iconst eX5_letterAt_14 ?_
    refine V_goto (tgt := 24) eX5_letterAt_15 rfl ?_
    exact V_iret eX5_letterAt_24 ⟨Nat.zero_le _, Nat.zero_le _⟩ rfl (rfl) (⟨rfl, rfl, rfl⟩)
  | some c =>
    rw [hc] at e1
    have hcr := hl.1 c (List.mem_of_getElem? hc)
    have e2 : sp_at l i = (c : Int) := by simp [sp_at, hc]
    rw [e2]
    refine V_lload_n eX5_letterAt_0 rfl rfl ?_
    refine V_iconst eX5_letterAt_1 ?_
    refine V_iload_n eX5_letterAt_2 rfl rfl ?_
    refine V_imul eX5_letterAt_3 ?_
    refine V_eqI (b := ((5 * i : Nat) : Int)) (by omega) ?_
    refine V_lshr eX5_letterAt_4 (eb_shr (by omega) (by omega)) ?_
    refine V_l2iI eX5_letterAt_5 ?_
    refine V_bipush eX5_letterAt_6 (by decide) ?_
    refine V_iand eX5_letterAt_8 (eb_and31 _) ?_
    refine V_eqI (b := (c : Int) - 96) (by simp only at e1; omega) ?_
    refine V_istore_n eX5_letterAt_9 rfl (Nat.le_of_ble_eq_true rfl) rfl (eb_sS (eb_sS (eb_sS eb_s0))) ?_
    refine V_iload_n eX5_letterAt_10 rfl rfl ?_
    refine V_if_ne (tgt := 18) eX5_letterAt_11 rfl (by omega) (fun c_11 => ?_) (fun c_11 => absurd c_11 (by omega))
    refine V_bipush eX5_letterAt_18 (by decide) ?_
    refine V_iload_n eX5_letterAt_20 rfl rfl ?_
    refine V_iadd eX5_letterAt_21 ?_
    refine V_iconst eX5_letterAt_22 ?_
    refine V_isub eX5_letterAt_23 ?_
    refine V_eqI (b := (c : Int)) (by omega) ?_
    exact V_iret eX5_letterAt_24 ⟨Nat.zero_le _, Nat.zero_le _⟩ rfl (rfl) (⟨rfl, rfl, rfl⟩)
theorem c_X5_lengthOf {n : Nat} {h : eb_H} {l : List Nat} (hl : sp_ok l) : eb_T mX5_lengthOf [.long (eb_J (sp_enc l : Int))] n h (eb_X (some (.int (eb_I (l.length : Int)))) n h) := by
  refine eb_T.of (by decide +kernel) (Nat.le_of_ble_eq_true rfl) ?_
  show eb_V _ _ 0 [.long (eb_J (sp_enc l : Int)), eb_no, eb_no] [] (n, 0, 0) h _
  have hn := hl.2
  have loop : ∀ (m i : Nat), i + m = l.length → eb_V mX5_lengthOf (fun _ _ _ => True) 2 [.long (eb_J (sp_enc l : Int)), eb_no, .int (eb_I (i : Int))] [] (n, 0, 0) h (eb_R mX5_lengthOf (eb_X (some (.int (eb_I (l.length : Int)))) n h)) := by
    intro m
    induction m with
    | zero =>
      intro i hi
      have e1 : i = l.length := by omega
      subst e1
      have e2 : sp_at l l.length = -1 := by simp [sp_at]
      refine V_iload_n eX5_lengthOf_2 rfl rfl ?_
      refine V_bipush eX5_lengthOf_3 (by decide) ?_
      refine V_icmp_ge (tgt := 23) eX5_lengthOf_5 rfl (by omega) (fun c_5 => ?_) (fun c_5 => ?_)
      · refine V_iload_n eX5_lengthOf_23 rfl rfl ?_
        exact V_iret eX5_lengthOf_24 ⟨Nat.zero_le _, Nat.zero_le _⟩ rfl (rfl) (⟨rfl, rfl, rfl⟩)
      · refine V_lload_n eX5_lengthOf_8 rfl rfl ?_
        refine V_iload_n eX5_lengthOf_9 rfl rfl ?_
        refine V_csi eX5_lengthOf_10 (c_X5_letterAt hl (by omega)) rfl rfl (Nat.le_of_ble_eq_true rfl) ⟨rfl, rfl⟩ ⟨Nat.zero_le _, Nat.zero_le _⟩ ?_
        refine V_iconst eX5_lengthOf_13 ?_
        rw [e2]
        refine V_icmp_eq (tgt := 23) eX5_lengthOf_14 rfl (by decide) (fun c_14 => ?_) (fun c_14 => absurd rfl c_14)
        refine V_iload_n eX5_lengthOf_23 rfl rfl ?_
        exact V_iret eX5_lengthOf_24 ⟨Nat.zero_le _, Nat.zero_le _⟩ rfl (rfl) (⟨rfl, rfl, rfl⟩)
    | succ m ih =>
      intro i hi
      have hlt : i < l.length := by omega
      have e2 : sp_at l i = (l[i] : Int) := by simp [sp_at, hlt]
      have e3 := hl.1 l[i] (List.getElem_mem hlt)
      refine V_iload_n eX5_lengthOf_2 rfl rfl ?_
      refine V_bipush eX5_lengthOf_3 (by decide) ?_
      refine V_icmp_ge (tgt := 23) eX5_lengthOf_5 rfl (by omega) (fun c_5 => ?_) (fun c_5 => ?_)
      · exact absurd c_5 (by omega)
      · refine V_lload_n eX5_lengthOf_8 rfl rfl ?_
        refine V_iload_n eX5_lengthOf_9 rfl rfl ?_
        refine V_csi eX5_lengthOf_10 (c_X5_letterAt hl (by omega)) rfl rfl (Nat.le_of_ble_eq_true rfl) ⟨rfl, rfl⟩ ⟨Nat.zero_le _, Nat.zero_le _⟩ ?_
        rw [e2]
        refine V_iconst eX5_lengthOf_13 ?_
        refine V_icmp_eq (tgt := 23) eX5_lengthOf_14 rfl (by omega) (fun c_14 => ?_) (fun c_14 => ?_)
        · exact absurd c_14 (by omega)
        · refine V_iinc eX5_lengthOf_17 rfl rfl (eb_sS (eb_sS eb_s0)) ?_
          refine V_goto (tgt := 2) eX5_lengthOf_20 rfl ?_
          exact ih (i + 1) (by omega)
  refine V_iconst eX5_lengthOf_0 ?_
  refine V_istore_n eX5_lengthOf_1 rfl (Nat.le_of_ble_eq_true rfl) rfl (eb_sS (eb_sS eb_s0)) ?_
  exact loop l.length 0 (by omega)
theorem sp_ww_take (l : List Nat) (i : Nat) (hi : i < l.length) : sp_ww (l.take (i + 1)) = sp_ww (l.take i) + sp_lw (l[i] : Int) := by
  unfold sp_ww
  rw [List.take_succ_eq_append_getElem hi, List.map_append, List.sum_append]
  simp only [List.map_cons, List.map_nil, List.sum_cons, List.sum_nil, Int.add_zero]
theorem sp_lw_r (c : Int) : 1 ≤ sp_lw c ∧ sp_lw c ≤ 3 := by unfold sp_lw; split <;> (try split) <;> omega
theorem sp_ww_r (l : List Nat) : (l.length : Int) ≤ sp_ww l ∧ sp_ww l ≤ 3 * l.length := by
  induction l with
  | nil => decide
  | cons c t ih =>
    have := sp_lw_r (c : Int)
    have e : sp_ww (c :: t) = sp_lw (c : Int) + sp_ww t := by simp [sp_ww]
    rw [e]
    simp only [List.length_cons]
    omega
theorem c_X5_widthOf {n : Nat} {h : eb_H} {l : List Nat} (hl : sp_ok l) : eb_T mX5_widthOf [.long (eb_J (sp_enc l : Int))] n h (eb_X (some (.int (eb_I (sp_ww l)))) n h) := by
  refine eb_T.of (by decide +kernel) (Nat.le_of_ble_eq_true rfl) ?_
  show eb_V _ _ 0 [.long (eb_J (sp_enc l : Int)), eb_no, eb_no, eb_no, eb_no] [] (n, 0, 0) h _
  have hn := hl.2
  have loop : ∀ (m i : Nat), i + m = l.length → eb_V mX5_widthOf (fun _ _ _ => True) 10 [.long (eb_J (sp_enc l : Int)), eb_no, .int (eb_I (sp_ww (l.take i))), .int (eb_I (l.length : Int)), .int (eb_I (i : Int))] [] (n, 0, 0) h (eb_R mX5_widthOf (eb_X (some (.int (eb_I (sp_ww l)))) n h)) := by
    intro m
    induction m with
    | zero =>
      intro i hi
      have e1 : i = l.length := by omega
      subst e1
      rw [List.take_length]
      refine V_iload eX5_widthOf_10 rfl ?_
      refine V_iload_n eX5_widthOf_12 rfl rfl ?_
      refine V_icmp_ge (tgt := 34) eX5_widthOf_13 rfl (by omega) (fun c_13 => ?_) (fun c_13 => ?_)
      · refine V_iload_n eX5_widthOf_34 rfl rfl ?_
        exact V_iret eX5_widthOf_35 ⟨Nat.zero_le _, Nat.zero_le _⟩ rfl (rfl) (⟨rfl, rfl, rfl⟩)
      · exact absurd (Int.le_refl _) c_13
    | succ m ih =>
      intro i hi
      have hlt : i < l.length := by omega
      have e2 : sp_at l i = (l[i] : Int) := by simp [sp_at, hlt]
      have e3 := hl.1 l[i] (List.getElem_mem hlt)
      have e4 := sp_ww_take l i hlt
      refine V_iload eX5_widthOf_10 rfl ?_
      refine V_iload_n eX5_widthOf_12 rfl rfl ?_
      refine V_icmp_ge (tgt := 34) eX5_widthOf_13 rfl (by omega) (fun c_13 => ?_) (fun c_13 => ?_)
      · exact absurd c_13 (by omega)
      · refine V_iload_n eX5_widthOf_16 rfl rfl ?_
        refine V_lload_n eX5_widthOf_17 rfl rfl ?_
        refine V_iload eX5_widthOf_18 rfl ?_
        refine V_csi eX5_widthOf_20 (c_X5_letterAt hl (by omega)) rfl rfl (Nat.le_of_ble_eq_true rfl) ⟨rfl, rfl⟩ ⟨Nat.zero_le _, Nat.zero_le _⟩ ?_
        rw [e2]
        refine V_csi eX5_widthOf_23 (c_X5_letterWidth (by omega)) rfl rfl (Nat.le_of_ble_eq_true rfl) ⟨rfl, rfl⟩ ⟨Nat.zero_le _, Nat.zero_le _⟩ ?_
        refine V_iadd eX5_widthOf_26 ?_
        rw [← e4]
        refine V_istore_n eX5_widthOf_27 rfl (Nat.le_of_ble_eq_true rfl) rfl (eb_sS (eb_sS eb_s0)) ?_
        refine V_iinc eX5_widthOf_28 rfl rfl (eb_sS (eb_sS (eb_sS (eb_sS eb_s0)))) ?_
        refine V_goto (tgt := 10) eX5_widthOf_31 rfl ?_
        exact ih (i + 1) (by omega)
  refine V_iconst eX5_widthOf_0 ?_
  refine V_istore_n eX5_widthOf_1 rfl (Nat.le_of_ble_eq_true rfl) rfl (eb_sS (eb_sS eb_s0)) ?_
  refine V_lload_n eX5_widthOf_2 rfl rfl ?_
  refine V_csi eX5_widthOf_3 (c_X5_lengthOf hl) rfl rfl (Nat.le_of_ble_eq_true rfl) ⟨rfl, rfl⟩ ⟨Nat.zero_le _, Nat.zero_le _⟩ ?_
  refine V_istore_n eX5_widthOf_6 rfl (Nat.le_of_ble_eq_true rfl) rfl (eb_sS (eb_sS (eb_sS eb_s0))) ?_
  refine V_iconst eX5_widthOf_7 ?_
  refine V_istore eX5_widthOf_8 (Nat.le_of_ble_eq_true rfl) rfl (eb_sS (eb_sS (eb_sS (eb_sS eb_s0)))) ?_
  exact loop l.length 0 (by omega)
