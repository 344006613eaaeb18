/-! the reference: its cells -/
abbrev mo (c : Nat → Int) : va_E := .inr (9, [.ref 68, .ref 69, .int (eb_I (c 2)), .int (eb_I (c 3)), .ref 70, .int (eb_I (c 5)), .int (eb_I (c 6)), .ref 71, .ref 72, .int (eb_I (c 9)), .ref 73, .ref 74, .ref 75, .ref 76, .ref 77, .ref 78, .int (eb_I (c 16)), .ref 79, .ref 80, .int (eb_I (c 19)), .ref 81, .int (eb_I (c 21)), .ref 82, .ref 83, .int (eb_I (c 24)), .int (eb_I (c 25)), .int (eb_I (c 26)), .ref 84, .ref 85])
def ms (f : Nat → Int) (T : TX) : Prop := f 0 = (T.1.length : Int) ∧ f 1 = T.2.1 ∧ f 2 = T.2.2.1 ∧ f 3 = T.2.2.2.1 ∧ f 4 = T.2.2.2.2 ∧ ∀ w (hw : w < T.1.length), f (5 + w) = (T.1[w].length : Int) ∧ ∀ k (hk : k < T.1[w].length), f (45 + 12 * w + k) = (T.1[w][k] : Int)
theorem eb_cmp_ge {a b : Int} (h : b ≤ a) : ∃ v, (if b < a then (1 : Int) else if a = b then 0 else -1) = v ∧ 0 ≤ v ∧ v ≤ 1 := by
  by_cases c : b < a
  · exact ⟨1, by rw [if_pos c], by omega, by omega⟩
  · exact ⟨0, by rw [if_neg c, if_pos (by omega)], by omega, by omega⟩
theorem eb_cmp_le {a b : Int} (h : a ≤ b) : ∃ v, (if b < a then (1 : Int) else if a = b then 0 else -1) = v ∧ -1 ≤ v ∧ v ≤ 0 := by
  by_cases c : a = b
  · exact ⟨0, by rw [if_neg (by omega), if_pos c], by omega, by omega⟩
  · exact ⟨-1, by rw [if_neg (by omega), if_neg c], by omega, by omega⟩
theorem eb_cmp_lt {a b : Int} (h : a < b) : (if b < a then (1 : Int) else if a = b then 0 else -1) = -1 := by rw [if_neg (by omega), if_neg (by omega)]
theorem eb_cmp_gt {a b : Int} (h : b < a) : (if b < a then (1 : Int) else if a = b then 0 else -1) = 1 := by rw [if_pos h]
section M1
variable {n : Nat} {h : eb_H} {c : Nat → Int} {sf : Nat → Int} {T : TX}
theorem c_X10_in {a lo hi : Int} (hr : (-2147483649 ≤ a ∧ a ≤ 2147483648) ∧ (-2147483649 ≤ lo ∧ lo ≤ 2147483648) ∧ (-2147483649 ≤ hi ∧ hi ≤ 2147483648)) : eb_T mX10_in [.long (eb_J a), .long (eb_J lo), .long (eb_J hi)] n h (eb_X (some (.int (eb_I (if lo ≤ a ∧ a ≤ hi then 1 else 0)))) n h) := by
  refine eb_T.of (by decide +kernel) (Nat.le_of_ble_eq_true rfl) ?_
  show eb_V _ _ 0 [.long (eb_J a), eb_no, .long (eb_J lo), eb_no, .long (eb_J hi), eb_no] [] (n, 0, 0) h _
  by_cases c1 : lo ≤ a
  · obtain ⟨v1, hv1, hv2⟩ := eb_cmp_ge c1
    by_cases c2 : a ≤ hi
    · obtain ⟨v3, hv3, hv4⟩ := eb_cmp_le c2
      rw [if_pos ⟨c1, c2⟩]
      refine V_lload_n eX10_in_0 rfl rfl ?_
      refine V_lload_n eX10_in_1 rfl rfl ?_
      refine V_lcmpI eX10_in_2 (by omega) ?_
      rw [hv1]
      refine V_if_lt (tgt := 17) eX10_in_3 rfl (by omega) (fun c_3 => ?_) (fun c_3 => ?_)
      · exact absurd c_3 (by omega)
      · refine V_lload_n eX10_in_6 rfl rfl ?_
        refine V_lload eX10_in_7 rfl ?_
        refine V_lcmpI eX10_in_9 (by omega) ?_
        rw [hv3]
        refine V_if_gt (tgt := 17) eX10_in_10 rfl (by omega) (fun c_10 => ?_) (fun c_10 => ?_)
        · exact absurd c_10 (by omega)
        · refine V_iconst eX10_in_13 ?_
          refine V_goto (tgt := 18) eX10_in_14 rfl ?_
          exact V_iret eX10_in_18 ⟨Nat.zero_le _, Nat.zero_le _⟩ rfl (rfl) (⟨rfl, rfl, rfl⟩)
    · rw [if_neg (fun q => c2 q.2)]
      refine V_lload_n eX10_in_0 rfl rfl ?_
      refine V_lload_n eX10_in_1 rfl rfl ?_
      refine V_lcmpI eX10_in_2 (by omega) ?_
      rw [hv1]
      refine V_if_lt (tgt := 17) eX10_in_3 rfl (by omega) (fun c_3 => ?_) (fun c_3 => ?_)
      · exact absurd c_3 (by omega)
      · refine V_lload_n eX10_in_6 rfl rfl ?_
        refine V_lload eX10_in_7 rfl ?_
        refine V_lcmpI eX10_in_9 (by omega) ?_
        rw [eb_cmp_gt (by omega)]
        refine V_if_gt (tgt := 17) eX10_in_10 rfl (by omega) (fun c_10 => ?_) (fun c_10 => ?_)
        · refine V_iconst eX10_in_17 ?_
          exact V_iret eX10_in_18 ⟨Nat.zero_le _, Nat.zero_le _⟩ rfl (rfl) (⟨rfl, rfl, rfl⟩)
        · exact absurd (by omega) c_10
  · rw [if_neg (fun q => c1 q.1)]
    refine V_lload_n eX10_in_0 rfl rfl ?_
    refine V_lload_n eX10_in_1 rfl rfl ?_
    refine V_lcmpI eX10_in_2 (by omega) ?_
    rw [eb_cmp_lt (by omega)]
    refine V_if_lt (tgt := 17) eX10_in_3 rfl (by omega) (fun c_3 => ?_) (fun c_3 => ?_)
    · refine V_iconst eX10_in_17 ?_
      exact V_iret eX10_in_18 ⟨Nat.zero_le _, Nat.zero_le _⟩ rfl (rfl) (⟨rfl, rfl, rfl⟩)
    · exact absurd (by omega) c_3
theorem c_X10_isWord {w : Int} (H_this : h 67 = mo c) (H_this_st : h 68 = eb_ia 525 sf) (hm : ms sf T) (hN : T.1.length ≤ 40) (hw : -2147483648 ≤ w ∧ w ≤ 2147483647) : eb_T mX10_isWord [.ref 67, .int (eb_I w)] n h (eb_X (some (.int (eb_I (if 0 ≤ w ∧ w < (T.1.length : Int) then 1 else 0)))) n h) := by
  refine eb_T.of (by decide +kernel) (Nat.le_of_ble_eq_true rfl) ?_
  show eb_V _ _ 0 [.ref 67, .int (eb_I w)] [] (n, 0, 0) h _
  have e0 : sf (0 : Int).toNat = (T.1.length : Int) := hm.1
  have T1 := c_X10_in (n := n) (h := h) (a := w) (lo := 0) (hi := (T.1.length : Int) - 1) (by omega)
  rw [show (if 0 ≤ w ∧ w ≤ (T.1.length : Int) - 1 then (1 : Int) else 0) = if 0 ≤ w ∧ w < (T.1.length : Int) then 1 else 0 by
    by_cases q : 0 ≤ w ∧ w < (T.1.length : Int)
    · rw [if_pos q, if_pos (by omega)]
    · rw [if_neg q, if_neg (by omega)]] at T1
  refine V_iload_n eX10_isWord_0 rfl rfl ?_
  refine V_i2lI eX10_isWord_1 (by omega) ?_
  refine V_lconst (b := 0) eX10_isWord_2 (by decide) ?_
  refine V_aload_n eX10_isWord_3 rfl rfl ?_
  refine V_getf eX10_isWord_4 H_this rfl ?_
  refine V_iconst eX10_isWord_7 ?_
  refine V_iald eX10_isWord_8 H_this_st (by omega) ?_
  rw [e0]
  refine V_iconst eX10_isWord_9 ?_
  refine V_isub eX10_isWord_10 ?_
  refine V_i2lI eX10_isWord_11 (by omega) ?_
  refine V_csi eX10_isWord_12 (T1) rfl rfl (Nat.le_of_ble_eq_true rfl) ⟨rfl, rfl⟩ ⟨Nat.zero_le _, Nat.zero_le _⟩ ?_
  exact V_iret eX10_isWord_15 ⟨Nat.zero_le _, Nat.zero_le _⟩ rfl (by split <;> rfl) (⟨rfl, rfl, rfl⟩)
theorem c_X10_isEnd {w : Int} (H_this : h 67 = mo c) (H_this_st : h 68 = eb_ia 525 sf) (hm : ms sf T) (hN : T.1.length ≤ 40) (hw : -2147483648 ≤ w ∧ w ≤ 2147483647) : eb_T mX10_isEnd [.ref 67, .int (eb_I w)] n h (eb_X (some (.int (eb_I (if 0 ≤ w ∧ w ≤ (T.1.length : Int) then 1 else 0)))) n h) := by
  refine eb_T.of (by decide +kernel) (Nat.le_of_ble_eq_true rfl) ?_
  show eb_V _ _ 0 [.ref 67, .int (eb_I w)] [] (n, 0, 0) h _
  have e0 : sf (0 : Int).toNat = (T.1.length : Int) := hm.1
  refine V_iload_n eX10_isEnd_0 rfl rfl ?_
  refine V_i2lI eX10_isEnd_1 (by omega) ?_
  refine V_lconst (b := 0) eX10_isEnd_2 (by decide) ?_
  refine V_aload_n eX10_isEnd_3 rfl rfl ?_
  refine V_getf eX10_isEnd_4 H_this rfl ?_
  refine V_iconst eX10_isEnd_7 ?_
  refine V_iald eX10_isEnd_8 H_this_st (by omega) ?_
  rw [e0]
  refine V_i2lI eX10_isEnd_9 (by omega) ?_
  refine V_csi eX10_isEnd_10 (c_X10_in (by omega)) rfl rfl (Nat.le_of_ble_eq_true rfl) ⟨rfl, rfl⟩ ⟨Nat.zero_le _, Nat.zero_le _⟩ ?_
  exact V_iret eX10_isEnd_13 ⟨Nat.zero_le _, Nat.zero_le _⟩ rfl (by split <;> rfl) (⟨rfl, rfl, rfl⟩)
theorem c_X10_widthOf {x : Int} (hx : -2147483648 ≤ x ∧ x ≤ 2147483647) : eb_T mX10_widthOf [.int (eb_I x)] n h (eb_X (some (.int (eb_I (sp_lw x)))) n h) := by
  refine eb_T.of (by decide +kernel) (Nat.le_of_ble_eq_true rfl) ?_
  show eb_V _ _ 0 [.int (eb_I x)] [] (n, 0, 0) h _
  refine V_iload_n eX10_widthOf_0 rfl rfl ?_
  refine V_bipush eX10_widthOf_1 (by decide) ?_
  refine V_icmp_eq (tgt := 36) eX10_widthOf_3 rfl (by omega) (fun c_3 => ?_) (fun c_3 => ?_)
  · refine V_iconst eX10_widthOf_36 ?_
    refine V_eqI (b := sp_lw x) (by unfold sp_lw; rw [if_pos (by omega)]) ?_
    exact V_iret eX10_widthOf_37 ⟨Nat.zero_le _, Nat.zero_le _⟩ rfl (rfl) (⟨rfl, rfl, rfl⟩)
  · refine V_iload_n eX10_widthOf_6 rfl rfl ?_
    refine V_bipush eX10_widthOf_7 (by decide) ?_
    refine V_icmp_eq (tgt := 36) eX10_widthOf_9 rfl (by omega) (fun c_9 => ?_) (fun c_9 => ?_)
    · refine V_iconst eX10_widthOf_36 ?_
      refine V_eqI (b := sp_lw x) (by unfold sp_lw; rw [if_pos (by omega)]) ?_
      exact V_iret eX10_widthOf_37 ⟨Nat.zero_le _, Nat.zero_le _⟩ rfl (rfl) (⟨rfl, rfl, rfl⟩)
    · refine V_iload_n eX10_widthOf_12 rfl rfl ?_
      refine V_bipush eX10_widthOf_13 (by decide) ?_
      refine V_icmp_eq (tgt := 36) eX10_widthOf_15 rfl (by omega) (fun c_15 => ?_) (fun c_15 => ?_)
      · refine V_iconst eX10_widthOf_36 ?_
        refine V_eqI (b := sp_lw x) (by unfold sp_lw; rw [if_pos (by omega)]) ?_
        exact V_iret eX10_widthOf_37 ⟨Nat.zero_le _, Nat.zero_le _⟩ rfl (rfl) (⟨rfl, rfl, rfl⟩)
      · refine V_iload_n eX10_widthOf_18 rfl rfl ?_
        refine V_bipush eX10_widthOf_19 (by decide) ?_
        refine V_icmp_eq (tgt := 36) eX10_widthOf_21 rfl (by omega) (fun c_21 => ?_) (fun c_21 => ?_)
        · refine V_iconst eX10_widthOf_36 ?_
          refine V_eqI (b := sp_lw x) (by unfold sp_lw; rw [if_pos (by omega)]) ?_
          exact V_iret eX10_widthOf_37 ⟨Nat.zero_le _, Nat.zero_le _⟩ rfl (rfl) (⟨rfl, rfl, rfl⟩)
        · refine V_iload_n eX10_widthOf_24 rfl rfl ?_
          refine V_bipush eX10_widthOf_25 (by decide) ?_
          refine V_icmp_eq (tgt := 36) eX10_widthOf_27 rfl (by omega) (fun c_27 => ?_) (fun c_27 => ?_)
          · refine V_iconst eX10_widthOf_36 ?_
            refine V_eqI (b := sp_lw x) (by unfold sp_lw; rw [if_pos (by omega)]) ?_
            exact V_iret eX10_widthOf_37 ⟨Nat.zero_le _, Nat.zero_le _⟩ rfl (rfl) (⟨rfl, rfl, rfl⟩)
          · refine V_iload_n eX10_widthOf_30 rfl rfl ?_
            refine V_bipush eX10_widthOf_31 (by decide) ?_
            refine V_icmp_ne (tgt := 38) eX10_widthOf_33 rfl (by omega) (fun c_33 => ?_) (fun c_33 => ?_)
            · refine V_iload_n eX10_widthOf_38 rfl rfl ?_
              refine V_bipush eX10_widthOf_39 (by decide) ?_
              refine V_icmp_eq (tgt := 50) eX10_widthOf_41 rfl (by omega) (fun c_41 => ?_) (fun c_41 => ?_)
              · refine V_iconst eX10_widthOf_50 ?_
                refine V_eqI (b := sp_lw x) (by unfold sp_lw; rw [if_neg (by omega), if_pos (by omega)]) ?_
                refine V_goto (tgt := 55) eX10_widthOf_51 rfl ?_
                exact V_iret eX10_widthOf_55 ⟨Nat.zero_le _, Nat.zero_le _⟩ rfl (rfl) (⟨rfl, rfl, rfl⟩)
              · refine V_iload_n eX10_widthOf_44 rfl rfl ?_
                refine V_bipush eX10_widthOf_45 (by decide) ?_
                refine V_icmp_ne (tgt := 54) eX10_widthOf_47 rfl (by omega) (fun c_47 => ?_) (fun c_47 => ?_)
                · refine V_iconst eX10_widthOf_54 ?_
                  refine V_eqI (b := sp_lw x) (by unfold sp_lw; rw [if_neg (by omega), if_neg (by omega)]) ?_
                  exact V_iret eX10_widthOf_55 ⟨Nat.zero_le _, Nat.zero_le _⟩ rfl (rfl) (⟨rfl, rfl, rfl⟩)
                · refine V_iconst eX10_widthOf_50 ?_
                  refine V_eqI (b := sp_lw x) (by unfold sp_lw; rw [if_neg (by omega), if_pos (by omega)]) ?_
                  refine V_goto (tgt := 55) eX10_widthOf_51 rfl ?_
                  exact V_iret eX10_widthOf_55 ⟨Nat.zero_le _, Nat.zero_le _⟩ rfl (rfl) (⟨rfl, rfl, rfl⟩)
            · refine V_iconst eX10_widthOf_36 ?_
              refine V_eqI (b := sp_lw x) (by unfold sp_lw; rw [if_pos (by omega)]) ?_
              exact V_iret eX10_widthOf_37 ⟨Nat.zero_le _, Nat.zero_le _⟩ rfl (rfl) (⟨rfl, rfl, rfl⟩)
theorem c_X10_wordWidth {w : Nat} (H_this : h 67 = mo c) (H_this_st : h 68 = eb_ia 525 sf) (hm : ms sf T) (HO : TX_ok T) (hw : w < T.1.length) : eb_T mX10_wordWidth [.ref 67, .int (eb_I (w : Int))] n h (eb_X (some (.int (eb_I (sp_ww T.1[w])))) n h) := by
  refine eb_T.of (by decide +kernel) (Nat.le_of_ble_eq_true rfl) ?_
  show eb_V _ _ 0 [.ref 67, .int (eb_I (w : Int)), eb_no, eb_no] [] (n, 0, 0) h _
  have hN : T.1.length ≤ 40 := HO.1.1
  obtain ⟨e1, e2⟩ := hm.2.2.2.2.2 w hw
  have hl0 := HO.2 T.1[w] (List.getElem_mem hw)
  have hl12 := hl0.1.2
  have e3 : sf ((5 : Int) + (w : Int)).toNat = (T.1[w].length : Int) := by rw [show ((5 : Int) + (w : Int)).toNat = 5 + w by omega]; exact e1
  have loop : ∀ (d i : Nat), i + d = T.1[w].length → eb_V mX10_wordWidth (fun _ _ _ => True) 4 [.ref 67, .int (eb_I (w : Int)), .int (eb_I (sp_ww (T.1[w].take i))), .int (eb_I (i : Int))] [] (n, 0, 0) h (eb_R mX10_wordWidth (eb_X (some (.int (eb_I (sp_ww T.1[w])))) n h)) := by
    intro d
    induction d with
    | zero =>
      intro i hi
      have : i = T.1[w].length := by omega
      subst this
      rw [List.take_length]
      refine V_iload_n eX10_wordWidth_4 rfl rfl ?_
      refine V_aload_n eX10_wordWidth_5 rfl rfl ?_
      refine V_getf eX10_wordWidth_6 H_this rfl ?_
      refine V_iconst eX10_wordWidth_9 ?_
      refine V_iload_n eX10_wordWidth_10 rfl rfl ?_
      refine V_iadd eX10_wordWidth_11 ?_
      refine V_iald eX10_wordWidth_12 H_this_st (by omega) ?_
      rw [e3]
      refine V_icmp_ge (tgt := 42) eX10_wordWidth_13 rfl (by omega) (fun c_13 => ?_) (fun c_13 => ?_)
      · refine V_iload_n eX10_wordWidth_42 rfl rfl ?_
        exact V_iret eX10_wordWidth_43 ⟨Nat.zero_le _, Nat.zero_le _⟩ rfl (rfl) (⟨rfl, rfl, rfl⟩)
      · exact absurd (Int.le_refl _) c_13
    | succ d ih =>
      intro i hi
      have hil : i < T.1[w].length := by omega
      have e4 : sf ((45 : Int) + 12 * (w : Int) + (i : Int)).toNat = (T.1[w][i] : Int) := by rw [show ((45 : Int) + 12 * (w : Int) + (i : Int)).toNat = 45 + 12 * w + i by omega]; exact e2 i hil
      have hcr := hl0.1.1 T.1[w][i] (List.getElem_mem hil)
      have e5 := sp_ww_take T.1[w] i hil
      refine V_iload_n eX10_wordWidth_4 rfl rfl ?_
      refine V_aload_n eX10_wordWidth_5 rfl rfl ?_
      refine V_getf eX10_wordWidth_6 H_this rfl ?_
      refine V_iconst eX10_wordWidth_9 ?_
      refine V_iload_n eX10_wordWidth_10 rfl rfl ?_
      refine V_iadd eX10_wordWidth_11 ?_
      refine V_iald eX10_wordWidth_12 H_this_st (by omega) ?_
      rw [e3]
      refine V_icmp_ge (tgt := 42) eX10_wordWidth_13 rfl (by omega) (fun c_13 => ?_) (fun c_13 => ?_)
      · exact absurd c_13 (by omega)
      · refine V_iload_n eX10_wordWidth_16 rfl rfl ?_
        refine V_aload_n eX10_wordWidth_17 rfl rfl ?_
        refine V_getf eX10_wordWidth_18 H_this rfl ?_
        refine V_bipush eX10_wordWidth_21 (by decide) ?_
        refine V_bipush eX10_wordWidth_23 (by decide) ?_
        refine V_iload_n eX10_wordWidth_25 rfl rfl ?_
        refine V_imul eX10_wordWidth_26 ?_
        refine V_iadd eX10_wordWidth_27 ?_
        refine V_iload_n eX10_wordWidth_28 rfl rfl ?_
        refine V_iadd eX10_wordWidth_29 ?_
        refine V_iald eX10_wordWidth_30 H_this_st (by omega) ?_
        rw [e4]
        refine V_csi eX10_wordWidth_31 (c_X10_widthOf (by omega)) rfl rfl (Nat.le_of_ble_eq_true rfl) ⟨rfl, rfl⟩ ⟨Nat.zero_le _, Nat.zero_le _⟩ ?_
        refine V_iadd eX10_wordWidth_34 ?_
        rw [← e5]
        refine V_istore_n eX10_wordWidth_35 rfl (Nat.le_of_ble_eq_true rfl) rfl (eb_sS (eb_sS eb_s0)) ?_
        refine V_iinc eX10_wordWidth_36 rfl rfl (eb_sS (eb_sS (eb_sS eb_s0))) ?_
        refine V_goto (tgt := 4) eX10_wordWidth_39 rfl ?_
        exact ih (i + 1) (by omega)
  refine V_iconst eX10_wordWidth_0 ?_
  refine V_istore_n eX10_wordWidth_1 rfl (Nat.le_of_ble_eq_true rfl) rfl (eb_sS (eb_sS eb_s0)) ?_
  refine V_iconst eX10_wordWidth_2 ?_
  refine V_istore_n eX10_wordWidth_3 rfl (Nat.le_of_ble_eq_true rfl) rfl (eb_sS (eb_sS (eb_sS eb_s0))) ?_
  exact loop T.1[w].length 0 (by omega)
theorem c_X10_root {s : Nat} (hs : s < 200) : eb_T mX10_root [.int (eb_I (100 * (s : Int)))] n h (eb_X (some (.int (eb_I (lt_rt s)))) n h) := by
  refine eb_T.of (by decide +kernel) (Nat.le_of_ble_eq_true rfl) ?_
  show eb_V _ _ 0 [.int (eb_I (100 * (s : Int))), eb_no, eb_no] [] (n, 0, 0) h _
  have loop : ∀ (j r : Nat), j ≤ 10 → r * r ≤ 100 * s → 100 * s < (r + 2 ^ j) * (r + 2 ^ j) → eb_V mX10_root (fun _ _ _ => True) 6 [.int (eb_I (100 * (s : Int))), .int (eb_I (r : Int)), .int (eb_I ((2 ^ j / 2 : Nat) : Int))] [] (n, 0, 0) h (eb_R mX10_root (eb_X (some (.int (eb_I (lt_rt s)))) n h)) := by
    intro j
    induction j with
    | zero =>
      intro r hj h1 h2
      have hr : r ≤ 200 := by
        rcases Nat.lt_or_ge 200 r with z | z
        · have := Nat.mul_le_mul (show 201 ≤ r from z) (show 201 ≤ r from z)
          omega
        · exact z
      rw [lt_rt_eq hs h1 h2 hr]
      show eb_V mX10_root (fun _ _ _ => True) 6 [.int (eb_I (100 * (s : Int))), .int (eb_I (r : Int)), .int (eb_I 0)] [] (n, 0, 0) h _
      refine V_iload_n eX10_root_6 rfl rfl ?_
      refine V_if_le (tgt := 36) eX10_root_7 rfl (by omega) (fun c_7 => ?_) (fun c_7 => ?_)
      · refine V_iload_n eX10_root_36 rfl rfl ?_
        exact V_iret eX10_root_37 ⟨Nat.zero_le _, Nat.zero_le _⟩ rfl (rfl) (⟨rfl, rfl, rfl⟩)
      · exact absurd (Int.le_refl _) c_7
    | succ j ih =>
      intro r hj h1 h2
      have hr : r ≤ 200 := by
        rcases Nat.lt_or_ge 200 r with z | z
        · have := Nat.mul_le_mul (show 201 ≤ r from z) (show 201 ≤ r from z)
          omega
        · exact z
      have hp0 : 0 < 2 ^ j := Nat.pow_pos (by decide)
      have hp1 : 2 ^ j ≤ 2 ^ 9 := Nat.pow_le_pow_right (by decide) (by omega)
      have e0 : 2 ^ (j + 1) / 2 = 2 ^ j := by rw [Nat.pow_succ]; omega
      rw [e0]
      have e2 : 2 ^ (j + 1) = 2 ^ j + 2 ^ j := by rw [Nat.pow_succ]; omega
      rw [e2] at h2
      have ihj := ih
      generalize hb : 2 ^ j = b at hp0 hp1 h2 ihj ⊢
      have em : ((r : Int) + (b : Int)) * ((r : Int) + (b : Int)) = (((r + b) * (r + b) : Nat) : Int) := by rw [Int.natCast_mul, Int.natCast_add]
      have hq : (r + b) * (r + b) ≤ 1000 * 1000 := Nat.mul_le_mul (by omega) (by omega)
      have hdiv : ((b : Nat) : Int) / 2 = ((b / 2 : Nat) : Int) := by omega
      by_cases cc : (r + b) * (r + b) ≤ 100 * s
      · have nxt := ihj (r + b) (by omega) cc (by rw [Nat.add_assoc]; exact h2)
        refine V_iload_n eX10_root_6 rfl rfl ?_
        refine V_if_le (tgt := 36) eX10_root_7 rfl (by omega) (fun c_7 => ?_) (fun c_7 => ?_)
        · exact absurd c_7 (by omega)
        · refine V_iload_n eX10_root_10 rfl rfl ?_
          refine V_iload_n eX10_root_11 rfl rfl ?_
          refine V_iload_n eX10_root_12 rfl rfl ?_
          refine V_iadd eX10_root_13 ?_
          refine V_iload_n eX10_root_14 rfl rfl ?_
          refine V_iload_n eX10_root_15 rfl rfl ?_
          refine V_iadd eX10_root_16 ?_
          refine V_imul eX10_root_17 ?_
          rw [em]
          refine V_iload_n eX10_root_18 rfl rfl ?_
          refine V_icmp_gt (tgt := 26) eX10_root_19 rfl (by omega) (fun c_19 => ?_) (fun c_19 => ?_)
          · exact absurd c_19 (by omega)
          · refine V_iload_n eX10_root_22 rfl rfl ?_
            refine V_goto (tgt := 27) eX10_root_23 rfl ?_
            refine V_iadd eX10_root_27 ?_
            refine V_istore_n eX10_root_28 rfl (Nat.le_of_ble_eq_true rfl) rfl (eb_sS eb_s0) ?_
            refine V_iload_n eX10_root_29 rfl rfl ?_
            refine V_iconst eX10_root_30 ?_
            refine V_idivI eX10_root_31 (by omega) (by omega) ?_
            rw [hdiv]
            refine V_istore_n eX10_root_32 rfl (Nat.le_of_ble_eq_true rfl) rfl (eb_sS (eb_sS eb_s0)) ?_
            refine V_goto (tgt := 6) eX10_root_33 rfl ?_
            rw [show (r : Int) + (b : Int) = ((r + b : Nat) : Int) by omega]
            exact nxt
      · have nxt := ihj r (by omega) h1 (by omega)
        refine V_iload_n eX10_root_6 rfl rfl ?_
        refine V_if_le (tgt := 36) eX10_root_7 rfl (by omega) (fun c_7 => ?_) (fun c_7 => ?_)
        · exact absurd c_7 (by omega)
        · refine V_iload_n eX10_root_10 rfl rfl ?_
          refine V_iload_n eX10_root_11 rfl rfl ?_
          refine V_iload_n eX10_root_12 rfl rfl ?_
          refine V_iadd eX10_root_13 ?_
          refine V_iload_n eX10_root_14 rfl rfl ?_
          refine V_iload_n eX10_root_15 rfl rfl ?_
          refine V_iadd eX10_root_16 ?_
          refine V_imul eX10_root_17 ?_
          rw [em]
          refine V_iload_n eX10_root_18 rfl rfl ?_
          refine V_icmp_gt (tgt := 26) eX10_root_19 rfl (by omega) (fun c_19 => ?_) (fun c_19 => ?_)
          · refine V_iconst eX10_root_26 ?_
            refine V_iadd eX10_root_27 ?_
            refine V_eqI (b := (r : Int)) (by omega) ?_
            refine V_istore_n eX10_root_28 rfl (Nat.le_of_ble_eq_true rfl) rfl (eb_sS eb_s0) ?_
            refine V_iload_n eX10_root_29 rfl rfl ?_
            refine V_iconst eX10_root_30 ?_
            refine V_idivI eX10_root_31 (by omega) (by omega) ?_
            rw [hdiv]
            refine V_istore_n eX10_root_32 rfl (Nat.le_of_ble_eq_true rfl) rfl (eb_sS (eb_sS eb_s0)) ?_
            refine V_goto (tgt := 6) eX10_root_33 rfl ?_
            exact nxt
          · exact absurd (by omega) c_19
  refine V_iconst eX10_root_0 ?_
  refine V_istore_n eX10_root_1 rfl (Nat.le_of_ble_eq_true rfl) rfl (eb_sS eb_s0) ?_
  refine V_sipush eX10_root_2 (by decide) ?_
  refine V_istore_n eX10_root_5 rfl (Nat.le_of_ble_eq_true rfl) rfl (eb_sS (eb_sS eb_s0)) ?_
  exact loop 10 0 (by omega) (by omega) (by omega)
theorem c_X10_costBy {law slack : Int} (hl : 0 ≤ law ∧ law ≤ 4) (hs : -3700 ≤ slack ∧ slack < 200) : eb_T mX10_costBy [.int (eb_I law), .int (eb_I slack)] n h (eb_X (some (.int (eb_I (if slack < 0 then lt_tight law (-slack) else lt_loose law slack)))) n h) := by
  refine eb_T.of (by decide +kernel) (Nat.le_of_ble_eq_true rfl) ?_
  show eb_V _ _ 0 [.int (eb_I law), .int (eb_I slack), eb_no] [] (n, 0, 0) h _
  by_cases c0 : slack < 0
  · rw [if_pos c0]
    obtain rfl | rfl | rfl | rfl | rfl : law = 0 ∨ law = 1 ∨ law = 2 ∨ law = 3 ∨ law = 4 := by omega
    · refine V_iload_n eX10_costBy_0 rfl rfl ?_
      refine V_if_ge (tgt := 9) eX10_costBy_1 rfl (by omega) (fun c_1 => ?_) (fun c_1 => ?_)
      · exact absurd c_1 (by omega)
      · refine V_iload_n eX10_costBy_4 rfl rfl ?_
        refine V_ineg eX10_costBy_5 ?_
        refine V_goto (tgt := 10) eX10_costBy_6 rfl ?_
        refine V_istore_n eX10_costBy_10 rfl (Nat.le_of_ble_eq_true rfl) rfl (eb_sS (eb_sS eb_s0)) ?_
        refine V_iload_n eX10_costBy_11 rfl rfl ?_
        refine V_tswIn (tgt := 44) (off := 32) eX10_costBy_12 (by omega) (by omega) rfl rfl ?_
        refine V_iload_n eX10_costBy_44 rfl rfl ?_
        refine V_iload_n eX10_costBy_45 rfl rfl ?_
        refine V_imul eX10_costBy_46 ?_
        refine V_eqI (b := lt_tight 0 (-slack)) (by show slack * slack = -slack * -slack; rw [Int.neg_mul_neg]) ?_
        exact V_iret eX10_costBy_47 ⟨Nat.zero_le _, Nat.zero_le _⟩ rfl (rfl) (⟨rfl, rfl, rfl⟩)
    · refine V_iload_n eX10_costBy_0 rfl rfl ?_
      refine V_if_ge (tgt := 9) eX10_costBy_1 rfl (by omega) (fun c_1 => ?_) (fun c_1 => ?_)
      · exact absurd c_1 (by omega)
      · refine V_iload_n eX10_costBy_4 rfl rfl ?_
        refine V_ineg eX10_costBy_5 ?_
        refine V_goto (tgt := 10) eX10_costBy_6 rfl ?_
        refine V_istore_n eX10_costBy_10 rfl (Nat.le_of_ble_eq_true rfl) rfl (eb_sS (eb_sS eb_s0)) ?_
        refine V_iload_n eX10_costBy_11 rfl rfl ?_
        refine V_tswIn (tgt := 48) (off := 36) eX10_costBy_12 (by omega) (by omega) rfl rfl ?_
        refine V_iload_n eX10_costBy_48 rfl rfl ?_
        exact V_iret eX10_costBy_49 ⟨Nat.zero_le _, Nat.zero_le _⟩ rfl (rfl) (⟨rfl, rfl, rfl⟩)
    · refine V_iload_n eX10_costBy_0 rfl rfl ?_
      refine V_if_ge (tgt := 9) eX10_costBy_1 rfl (by omega) (fun c_1 => ?_) (fun c_1 => ?_)
      · exact absurd c_1 (by omega)
      · refine V_iload_n eX10_costBy_4 rfl rfl ?_
        refine V_ineg eX10_costBy_5 ?_
        refine V_goto (tgt := 10) eX10_costBy_6 rfl ?_
        refine V_istore_n eX10_costBy_10 rfl (Nat.le_of_ble_eq_true rfl) rfl (eb_sS (eb_sS eb_s0)) ?_
        refine V_iload_n eX10_costBy_11 rfl rfl ?_
        refine V_tswIn (tgt := 50) (off := 38) eX10_costBy_12 (by omega) (by omega) rfl rfl ?_
        refine V_iload_n eX10_costBy_50 rfl rfl ?_
        refine V_if_ge (tgt := 61) eX10_costBy_51 rfl (by omega) (fun c_51 => ?_) (fun c_51 => ?_)
        · exact absurd c_51 (by omega)
        · refine V_bipush eX10_costBy_54 (by decide) ?_
          refine V_iload_n eX10_costBy_56 rfl rfl ?_
          refine V_imul eX10_costBy_57 ?_
          refine V_goto (tgt := 62) eX10_costBy_58 rfl ?_
          exact V_iret eX10_costBy_62 ⟨Nat.zero_le _, Nat.zero_le _⟩ rfl (rfl) (⟨rfl, rfl, rfl⟩)
    · refine V_iload_n eX10_costBy_0 rfl rfl ?_
      refine V_if_ge (tgt := 9) eX10_costBy_1 rfl (by omega) (fun c_1 => ?_) (fun c_1 => ?_)
      · exact absurd c_1 (by omega)
      · refine V_iload_n eX10_costBy_4 rfl rfl ?_
        refine V_ineg eX10_costBy_5 ?_
        refine V_goto (tgt := 10) eX10_costBy_6 rfl ?_
        refine V_istore_n eX10_costBy_10 rfl (Nat.le_of_ble_eq_true rfl) rfl (eb_sS (eb_sS eb_s0)) ?_
        refine V_iload_n eX10_costBy_11 rfl rfl ?_
        refine V_tswIn (tgt := 63) (off := 51) eX10_costBy_12 (by omega) (by omega) rfl rfl ?_
        refine V_iload_n eX10_costBy_63 rfl rfl ?_
        refine V_if_ge (tgt := 74) eX10_costBy_64 rfl (by omega) (fun c_64 => ?_) (fun c_64 => ?_)
        · exact absurd c_64 (by omega)
        · refine V_bipush eX10_costBy_67 (by decide) ?_
          refine V_iload_n eX10_costBy_69 rfl rfl ?_
          refine V_iadd eX10_costBy_70 ?_
          refine V_goto (tgt := 77) eX10_costBy_71 rfl ?_
          exact V_iret eX10_costBy_77 ⟨Nat.zero_le _, Nat.zero_le _⟩ rfl (rfl) (⟨rfl, rfl, rfl⟩)
    · refine V_iload_n eX10_costBy_0 rfl rfl ?_
      refine V_if_ge (tgt := 9) eX10_costBy_1 rfl (by omega) (fun c_1 => ?_) (fun c_1 => ?_)
      · exact absurd c_1 (by omega)
      · refine V_iload_n eX10_costBy_4 rfl rfl ?_
        refine V_ineg eX10_costBy_5 ?_
        refine V_goto (tgt := 10) eX10_costBy_6 rfl ?_
        refine V_istore_n eX10_costBy_10 rfl (Nat.le_of_ble_eq_true rfl) rfl (eb_sS (eb_sS eb_s0)) ?_
        refine V_iload_n eX10_costBy_11 rfl rfl ?_
        refine V_tswOut (tgt := 78) eX10_costBy_12 (by omega) (by omega) rfl ?_
        refine V_iload_n eX10_costBy_78 rfl rfl ?_
        refine V_if_ge (tgt := 86) eX10_costBy_79 rfl (by omega) (fun c_79 => ?_) (fun c_79 => ?_)
        · exact absurd c_79 (by omega)
        · refine V_iload_n eX10_costBy_82 rfl rfl ?_
          refine V_goto (tgt := 93) eX10_costBy_83 rfl ?_
          exact V_iret eX10_costBy_93 ⟨Nat.zero_le _, Nat.zero_le _⟩ rfl (rfl) (⟨rfl, rfl, rfl⟩)
  · rw [if_neg c0]
    obtain rfl | rfl | rfl | rfl | rfl : law = 0 ∨ law = 1 ∨ law = 2 ∨ law = 3 ∨ law = 4 := by omega
    · refine V_iload_n eX10_costBy_0 rfl rfl ?_
      refine V_if_ge (tgt := 9) eX10_costBy_1 rfl (by omega) (fun c_1 => ?_) (fun c_1 => ?_)
      · refine V_iload_n eX10_costBy_9 rfl rfl ?_
        refine V_istore_n eX10_costBy_10 rfl (Nat.le_of_ble_eq_true rfl) rfl (eb_sS (eb_sS eb_s0)) ?_
        refine V_iload_n eX10_costBy_11 rfl rfl ?_
        refine V_tswIn (tgt := 44) (off := 32) eX10_costBy_12 (by omega) (by omega) rfl rfl ?_
        refine V_iload_n eX10_costBy_44 rfl rfl ?_
        refine V_iload_n eX10_costBy_45 rfl rfl ?_
        refine V_imul eX10_costBy_46 ?_
        exact V_iret eX10_costBy_47 ⟨Nat.zero_le _, Nat.zero_le _⟩ rfl (rfl) (⟨rfl, rfl, rfl⟩)
      · exact absurd (by omega) c_1
    · refine V_iload_n eX10_costBy_0 rfl rfl ?_
      refine V_if_ge (tgt := 9) eX10_costBy_1 rfl (by omega) (fun c_1 => ?_) (fun c_1 => ?_)
      · refine V_iload_n eX10_costBy_9 rfl rfl ?_
        refine V_istore_n eX10_costBy_10 rfl (Nat.le_of_ble_eq_true rfl) rfl (eb_sS (eb_sS eb_s0)) ?_
        refine V_iload_n eX10_costBy_11 rfl rfl ?_
        refine V_tswIn (tgt := 48) (off := 36) eX10_costBy_12 (by omega) (by omega) rfl rfl ?_
        refine V_iload_n eX10_costBy_48 rfl rfl ?_
        exact V_iret eX10_costBy_49 ⟨Nat.zero_le _, Nat.zero_le _⟩ rfl (rfl) (⟨rfl, rfl, rfl⟩)
      · exact absurd (by omega) c_1
    · refine V_iload_n eX10_costBy_0 rfl rfl ?_
      refine V_if_ge (tgt := 9) eX10_costBy_1 rfl (by omega) (fun c_1 => ?_) (fun c_1 => ?_)
      · refine V_iload_n eX10_costBy_9 rfl rfl ?_
        refine V_istore_n eX10_costBy_10 rfl (Nat.le_of_ble_eq_true rfl) rfl (eb_sS (eb_sS eb_s0)) ?_
        refine V_iload_n eX10_costBy_11 rfl rfl ?_
        refine V_tswIn (tgt := 50) (off := 38) eX10_costBy_12 (by omega) (by omega) rfl rfl ?_
        refine V_iload_n eX10_costBy_50 rfl rfl ?_
        refine V_if_ge (tgt := 61) eX10_costBy_51 rfl (by omega) (fun c_51 => ?_) (fun c_51 => ?_)
        · refine V_iload_n eX10_costBy_61 rfl rfl ?_
          exact V_iret eX10_costBy_62 ⟨Nat.zero_le _, Nat.zero_le _⟩ rfl (rfl) (⟨rfl, rfl, rfl⟩)
        · exact absurd (by omega) c_51
      · exact absurd (by omega) c_1
    · refine V_iload_n eX10_costBy_0 rfl rfl ?_
      refine V_if_ge (tgt := 9) eX10_costBy_1 rfl (by omega) (fun c_1 => ?_) (fun c_1 => ?_)
      · refine V_iload_n eX10_costBy_9 rfl rfl ?_
        refine V_istore_n eX10_costBy_10 rfl (Nat.le_of_ble_eq_true rfl) rfl (eb_sS (eb_sS eb_s0)) ?_
        refine V_iload_n eX10_costBy_11 rfl rfl ?_
        refine V_tswIn (tgt := 63) (off := 51) eX10_costBy_12 (by omega) (by omega) rfl rfl ?_
        refine V_iload_n eX10_costBy_63 rfl rfl ?_
        refine V_if_ge (tgt := 74) eX10_costBy_64 rfl (by omega) (fun c_64 => ?_) (fun c_64 => ?_)
        · refine V_iload_n eX10_costBy_74 rfl rfl ?_
          refine V_iconst eX10_costBy_75 ?_
          refine V_idivI eX10_costBy_76 (by omega) (by omega) ?_
          exact V_iret eX10_costBy_77 ⟨Nat.zero_le _, Nat.zero_le _⟩ rfl (rfl) (⟨rfl, rfl, rfl⟩)
        · exact absurd (by omega) c_64
      · exact absurd (by omega) c_1
    · obtain ⟨s, rfl⟩ : ∃ s : Nat, slack = (s : Int) := ⟨slack.toNat, by omega⟩
      rw [show lt_loose 4 (s : Int) = lt_rt s from rfl]
      refine V_iload_n eX10_costBy_0 rfl rfl ?_
      refine V_if_ge (tgt := 9) eX10_costBy_1 rfl (by omega) (fun c_1 => ?_) (fun c_1 => ?_)
      · refine V_iload_n eX10_costBy_9 rfl rfl ?_
        refine V_istore_n eX10_costBy_10 rfl (Nat.le_of_ble_eq_true rfl) rfl (eb_sS (eb_sS eb_s0)) ?_
        refine V_iload_n eX10_costBy_11 rfl rfl ?_
        refine V_tswOut (tgt := 78) eX10_costBy_12 (by omega) (by omega) rfl ?_
        refine V_iload_n eX10_costBy_78 rfl rfl ?_
        refine V_if_ge (tgt := 86) eX10_costBy_79 rfl (by omega) (fun c_79 => ?_) (fun c_79 => ?_)
        · refine V_bipush eX10_costBy_86 (by decide) ?_
          refine V_iload_n eX10_costBy_88 rfl rfl ?_
          refine V_imul eX10_costBy_89 ?_
          refine V_csi eX10_costBy_90 (c_X10_root (by omega)) rfl rfl (Nat.le_of_ble_eq_true rfl) ⟨rfl, rfl⟩ ⟨Nat.zero_le _, Nat.zero_le _⟩ ?_
          exact V_iret eX10_costBy_93 ⟨Nat.zero_le _, Nat.zero_le _⟩ rfl (rfl) (⟨rfl, rfl, rfl⟩)
        · exact absurd (by omega) c_79
      · exact absurd (by omega) c_1
theorem c_X10_lineWidth {i j : Nat} {up : Nat → Int} (H_this : h 67 = mo c) (H_this_upTo : h 74 = eb_ia 41 up) (hi : i ≤ 40) (hj : j ≤ 40) : eb_T mX10_lineWidth [.ref 67, .int (eb_I (i : Int)), .int (eb_I (j : Int))] n h (eb_X (some (.int (eb_I (up j - up i - 1)))) n h) := by
  refine eb_T.of (by decide +kernel) (Nat.le_of_ble_eq_true rfl) ?_
  show eb_V _ _ 0 [.ref 67, .int (eb_I (i : Int)), .int (eb_I (j : Int))] [] (n, 0, 0) h _
  refine V_aload_n eX10_lineWidth_0 rfl rfl ?_
  refine V_getf eX10_lineWidth_1 H_this rfl ?_
  refine V_iload_n eX10_lineWidth_4 rfl rfl ?_
  refine V_iald eX10_lineWidth_5 H_this_upTo (by omega) ?_
  refine V_aload_n eX10_lineWidth_6 rfl rfl ?_
  refine V_getf eX10_lineWidth_7 H_this rfl ?_
  refine V_iload_n eX10_lineWidth_10 rfl rfl ?_
  refine V_iald eX10_lineWidth_11 H_this_upTo (by omega) ?_
  refine V_isub eX10_lineWidth_12 ?_
  refine V_iconst eX10_lineWidth_13 ?_
  refine V_isub eX10_lineWidth_14 ?_
  exact V_iret eX10_lineWidth_15 ⟨Nat.zero_le _, Nat.zero_le _⟩ rfl (rfl) (⟨rfl, rfl, rfl⟩)
theorem c_X10_costOf {i j : Nat} {m : Int} {up : Nat → Int} (H_this : h 67 = mo c) (H_this_st : h 68 = eb_ia 525 sf) (H_this_upTo : h 74 = eb_ia 41 up) (hm : ms sf T) (HO : TX_ok T) (hi : i ≤ 40) (hj : j ≤ 40) (hs : -3700 ≤ m - (up j - up i - 1) ∧ m - (up j - up i - 1) < 200) : eb_T mX10_costOf [.ref 67, .int (eb_I (i : Int)), .int (eb_I (j : Int)), .int (eb_I m)] n h (eb_X (some (.int (eb_I (lt_pr T.1.length T.2.2.1 T.2.2.2.1 T.2.2.2.2 (m - (up j - up i - 1)) j)))) n h) := by
  refine eb_T.of (by decide +kernel) (Nat.le_of_ble_eq_true rfl) ?_
  show eb_V _ _ 0 [.ref 67, .int (eb_I (i : Int)), .int (eb_I (j : Int)), .int (eb_I m), eb_no] [] (n, 0, 0) h _
  have e0 : sf (0 : Int).toNat = (T.1.length : Int) := hm.1
  have e2 : sf (2 : Int).toNat = T.2.2.1 := hm.2.2.1
  have e3 : sf (3 : Int).toNat = T.2.2.2.1 := hm.2.2.2.1
  have e4 : sf (4 : Int).toNat = T.2.2.2.2 := hm.2.2.2.2.1
  obtain ⟨⟨o1, o2, o3, o4, o5⟩, o6⟩ := HO
  have Tw := c_X10_lineWidth (n := n) H_this H_this_upTo hi hj
  have Tc := c_X10_costBy (n := n) (h := h) o3 hs
  obtain ⟨s, hs0⟩ : ∃ s, m - (up j - up i - 1) = s := ⟨_, rfl⟩
  rw [hs0] at hs Tc ⊢
  unfold lt_pr
  by_cases c0 : s < 0
  · rw [if_pos c0]
    rw [if_pos c0] at Tc
    refine V_iload_n eX10_costOf_0 rfl rfl ?_
    refine V_aload_n eX10_costOf_1 rfl rfl ?_
    refine V_iload_n eX10_costOf_2 rfl rfl ?_
    refine V_iload_n eX10_costOf_3 rfl rfl ?_
    refine V_cvi eX10_costOf_4 (Tw) H_this rfl rfl (Nat.le_of_ble_eq_true rfl) ⟨rfl, rfl⟩ ⟨Nat.zero_le _, Nat.zero_le _⟩ ?_
    refine V_isub eX10_costOf_7 ?_
    rw [hs0]
    refine V_istore eX10_costOf_8 (Nat.le_of_ble_eq_true rfl) rfl (eb_sS (eb_sS (eb_sS (eb_sS eb_s0)))) ?_
    refine V_aload_n eX10_costOf_10 rfl rfl ?_
    refine V_getf eX10_costOf_11 H_this rfl ?_
    refine V_iconst eX10_costOf_14 ?_
    refine V_iald eX10_costOf_15 H_this_st (by omega) ?_
    rw [e4]
    refine V_iconst eX10_costOf_16 ?_
    refine V_icmp_ne (tgt := 44) eX10_costOf_17 rfl (by omega) (fun c_17 => ?_) (fun c_17 => ?_)
    · refine V_aload_n eX10_costOf_44 rfl rfl ?_
      refine V_getf eX10_costOf_45 H_this rfl ?_
      refine V_iconst eX10_costOf_48 ?_
      refine V_iald eX10_costOf_49 H_this_st (by omega) ?_
      rw [e3]
      refine V_aload_n eX10_costOf_50 rfl rfl ?_
      refine V_getf eX10_costOf_51 H_this rfl ?_
      refine V_iconst eX10_costOf_54 ?_
      refine V_iald eX10_costOf_55 H_this_st (by omega) ?_
      rw [e2]
      refine V_iload eX10_costOf_56 rfl ?_
      refine V_csi eX10_costOf_58 (Tc) rfl rfl (Nat.le_of_ble_eq_true rfl) ⟨rfl, rfl⟩ ⟨Nat.zero_le _, Nat.zero_le _⟩ ?_
      refine V_iadd eX10_costOf_61 ?_
      exact V_iret eX10_costOf_62 ⟨Nat.zero_le _, Nat.zero_le _⟩ rfl (rfl) (⟨rfl, rfl, rfl⟩)
    · refine V_iload_n eX10_costOf_20 rfl rfl ?_
      refine V_aload_n eX10_costOf_21 rfl rfl ?_
      refine V_getf eX10_costOf_22 H_this rfl ?_
      refine V_iconst eX10_costOf_25 ?_
      refine V_iald eX10_costOf_26 H_this_st (by omega) ?_
      rw [e0]
      refine V_icmp_ne (tgt := 44) eX10_costOf_27 rfl (by omega) (fun c_27 => ?_) (fun c_27 => ?_)
      · refine V_aload_n eX10_costOf_44 rfl rfl ?_
        refine V_getf eX10_costOf_45 H_this rfl ?_
        refine V_iconst eX10_costOf_48 ?_
        refine V_iald eX10_costOf_49 H_this_st (by omega) ?_
        rw [e3]
        refine V_aload_n eX10_costOf_50 rfl rfl ?_
        refine V_getf eX10_costOf_51 H_this rfl ?_
        refine V_iconst eX10_costOf_54 ?_
        refine V_iald eX10_costOf_55 H_this_st (by omega) ?_
        rw [e2]
        refine V_iload eX10_costOf_56 rfl ?_
        refine V_csi eX10_costOf_58 (Tc) rfl rfl (Nat.le_of_ble_eq_true rfl) ⟨rfl, rfl⟩ ⟨Nat.zero_le _, Nat.zero_le _⟩ ?_
        refine V_iadd eX10_costOf_61 ?_
        exact V_iret eX10_costOf_62 ⟨Nat.zero_le _, Nat.zero_le _⟩ rfl (rfl) (⟨rfl, rfl, rfl⟩)
      · refine V_iload eX10_costOf_30 rfl ?_
        refine V_if_lt (tgt := 44) eX10_costOf_32 rfl (by omega) (fun c_32 => ?_) (fun c_32 => ?_)
        · refine V_aload_n eX10_costOf_44 rfl rfl ?_
          refine V_getf eX10_costOf_45 H_this rfl ?_
          refine V_iconst eX10_costOf_48 ?_
          refine V_iald eX10_costOf_49 H_this_st (by omega) ?_
          rw [e3]
          refine V_aload_n eX10_costOf_50 rfl rfl ?_
          refine V_getf eX10_costOf_51 H_this rfl ?_
          refine V_iconst eX10_costOf_54 ?_
          refine V_iald eX10_costOf_55 H_this_st (by omega) ?_
          rw [e2]
          refine V_iload eX10_costOf_56 rfl ?_
          refine V_csi eX10_costOf_58 (Tc) rfl rfl (Nat.le_of_ble_eq_true rfl) ⟨rfl, rfl⟩ ⟨Nat.zero_le _, Nat.zero_le _⟩ ?_
          refine V_iadd eX10_costOf_61 ?_
          exact V_iret eX10_costOf_62 ⟨Nat.zero_le _, Nat.zero_le _⟩ rfl (rfl) (⟨rfl, rfl, rfl⟩)
        · exact absurd c0 c_32
  · rw [if_neg c0]
    rw [if_neg c0] at Tc
    by_cases c1 : T.2.2.2.2 = 1 ∧ j = T.1.length
    · rw [if_pos c1]
      refine V_iload_n eX10_costOf_0 rfl rfl ?_
      refine V_aload_n eX10_costOf_1 rfl rfl ?_
      refine V_iload_n eX10_costOf_2 rfl rfl ?_
      refine V_iload_n eX10_costOf_3 rfl rfl ?_
      refine V_cvi eX10_costOf_4 (Tw) H_this rfl rfl (Nat.le_of_ble_eq_true rfl) ⟨rfl, rfl⟩ ⟨Nat.zero_le _, Nat.zero_le _⟩ ?_
      refine V_isub eX10_costOf_7 ?_
      rw [hs0]
      refine V_istore eX10_costOf_8 (Nat.le_of_ble_eq_true rfl) rfl (eb_sS (eb_sS (eb_sS (eb_sS eb_s0)))) ?_
      refine V_aload_n eX10_costOf_10 rfl rfl ?_
      refine V_getf eX10_costOf_11 H_this rfl ?_
      refine V_iconst eX10_costOf_14 ?_
      refine V_iald eX10_costOf_15 H_this_st (by omega) ?_
      rw [e4]
      refine V_iconst eX10_costOf_16 ?_
      refine V_icmp_ne (tgt := 44) eX10_costOf_17 rfl (by omega) (fun c_17 => ?_) (fun c_17 => ?_)
      · exact absurd c1.1 c_17
      · refine V_iload_n eX10_costOf_20 rfl rfl ?_
        refine V_aload_n eX10_costOf_21 rfl rfl ?_
        refine V_getf eX10_costOf_22 H_this rfl ?_
        refine V_iconst eX10_costOf_25 ?_
        refine V_iald eX10_costOf_26 H_this_st (by omega) ?_
        rw [e0]
        refine V_icmp_ne (tgt := 44) eX10_costOf_27 rfl (by omega) (fun c_27 => ?_) (fun c_27 => ?_)
        · exact absurd (by omega) c_27
        · refine V_iload eX10_costOf_30 rfl ?_
          refine V_if_lt (tgt := 44) eX10_costOf_32 rfl (by omega) (fun c_32 => ?_) (fun c_32 => ?_)
          · exact absurd c_32 c0
          · refine V_aload_n eX10_costOf_35 rfl rfl ?_
            refine V_getf eX10_costOf_36 H_this rfl ?_
            refine V_iconst eX10_costOf_39 ?_
            refine V_iald eX10_costOf_40 H_this_st (by omega) ?_
            rw [e3]
            refine V_goto (tgt := 62) eX10_costOf_41 rfl ?_
            exact V_iret eX10_costOf_62 ⟨Nat.zero_le _, Nat.zero_le _⟩ rfl (rfl) (⟨rfl, rfl, rfl⟩)
    · rw [if_neg c1]
      refine V_iload_n eX10_costOf_0 rfl rfl ?_
      refine V_aload_n eX10_costOf_1 rfl rfl ?_
      refine V_iload_n eX10_costOf_2 rfl rfl ?_
      refine V_iload_n eX10_costOf_3 rfl rfl ?_
      refine V_cvi eX10_costOf_4 (Tw) H_this rfl rfl (Nat.le_of_ble_eq_true rfl) ⟨rfl, rfl⟩ ⟨Nat.zero_le _, Nat.zero_le _⟩ ?_
      refine V_isub eX10_costOf_7 ?_
      rw [hs0]
      refine V_istore eX10_costOf_8 (Nat.le_of_ble_eq_true rfl) rfl (eb_sS (eb_sS (eb_sS (eb_sS eb_s0)))) ?_
      refine V_aload_n eX10_costOf_10 rfl rfl ?_
      refine V_getf eX10_costOf_11 H_this rfl ?_
      refine V_iconst eX10_costOf_14 ?_
      refine V_iald eX10_costOf_15 H_this_st (by omega) ?_
      rw [e4]
      refine V_iconst eX10_costOf_16 ?_
      refine V_icmp_ne (tgt := 44) eX10_costOf_17 rfl (by omega) (fun c_17 => ?_) (fun c_17 => ?_)
      · refine V_aload_n eX10_costOf_44 rfl rfl ?_
        refine V_getf eX10_costOf_45 H_this rfl ?_
        refine V_iconst eX10_costOf_48 ?_
        refine V_iald eX10_costOf_49 H_this_st (by omega) ?_
        rw [e3]
        refine V_aload_n eX10_costOf_50 rfl rfl ?_
        refine V_getf eX10_costOf_51 H_this rfl ?_
        refine V_iconst eX10_costOf_54 ?_
        refine V_iald eX10_costOf_55 H_this_st (by omega) ?_
        rw [e2]
        refine V_iload eX10_costOf_56 rfl ?_
        refine V_csi eX10_costOf_58 (Tc) rfl rfl (Nat.le_of_ble_eq_true rfl) ⟨rfl, rfl⟩ ⟨Nat.zero_le _, Nat.zero_le _⟩ ?_
        refine V_iadd eX10_costOf_61 ?_
        exact V_iret eX10_costOf_62 ⟨Nat.zero_le _, Nat.zero_le _⟩ rfl (rfl) (⟨rfl, rfl, rfl⟩)
      · refine V_iload_n eX10_costOf_20 rfl rfl ?_
        refine V_aload_n eX10_costOf_21 rfl rfl ?_
        refine V_getf eX10_costOf_22 H_this rfl ?_
        refine V_iconst eX10_costOf_25 ?_
        refine V_iald eX10_costOf_26 H_this_st (by omega) ?_
        rw [e0]
        refine V_icmp_ne (tgt := 44) eX10_costOf_27 rfl (by omega) (fun c_27 => ?_) (fun c_27 => ?_)
        · refine V_aload_n eX10_costOf_44 rfl rfl ?_
          refine V_getf eX10_costOf_45 H_this rfl ?_
          refine V_iconst eX10_costOf_48 ?_
          refine V_iald eX10_costOf_49 H_this_st (by omega) ?_
          rw [e3]
          refine V_aload_n eX10_costOf_50 rfl rfl ?_
          refine V_getf eX10_costOf_51 H_this rfl ?_
          refine V_iconst eX10_costOf_54 ?_
          refine V_iald eX10_costOf_55 H_this_st (by omega) ?_
          rw [e2]
          refine V_iload eX10_costOf_56 rfl ?_
          refine V_csi eX10_costOf_58 (Tc) rfl rfl (Nat.le_of_ble_eq_true rfl) ⟨rfl, rfl⟩ ⟨Nat.zero_le _, Nat.zero_le _⟩ ?_
          refine V_iadd eX10_costOf_61 ?_
          exact V_iret eX10_costOf_62 ⟨Nat.zero_le _, Nat.zero_le _⟩ rfl (rfl) (⟨rfl, rfl, rfl⟩)
        · refine V_iload eX10_costOf_30 rfl ?_
          refine V_if_lt (tgt := 44) eX10_costOf_32 rfl (by omega) (fun c_32 => ?_) (fun c_32 => ?_)
          · exact absurd c_32 c0
          · exact absurd ⟨c_17, by omega⟩ c1
end M1
