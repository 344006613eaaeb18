/-! Layout: the cells of one -/
abbrev ly_obj (b rt : Nat) (N : Nat) (me law fee fr lines : Int) (bg : Nat) : va_E := .inr (3, [.ref rt, .ref (b + 1), .ref (b + 2), .ref (b + 3), .ref (b + 4), .ref (b + 5), .int (eb_I (N : Int)), .int (eb_I me), .int (eb_I law), .int (eb_I fee), .int (eb_I fr), .int (eb_I lines), .long (eb_J (bg : Int))])
def ly_at (h : eb_H) (b rt N : Nat) (me law fee fr lines : Int) (bg : Nat) (pl to ow lb ro : Nat → Int) : Prop := h b = ly_obj b rt N me law fee fr lines bg ∧ h (b + 1) = eb_ia 41 pl ∧ h (b + 2) = eb_ia 41 to ∧ h (b + 3) = eb_ia 41 ow ∧ h (b + 4) = eb_ia 41 lb ∧ h (b + 5) = eb_ia 41 ro ∧ h rt = eb_ia 200 lt_rt
def ly_ok (N : Nat) (me law fee fr : Int) : Prop := N ≤ 40 ∧ (1 ≤ me ∧ me ≤ 200) ∧ (0 ≤ law ∧ law ≤ 4) ∧ (0 ≤ fee ∧ fee ≤ 99) ∧ (fr = 0 ∨ fr = 1)
section LY
variable {n : Nat} {h : eb_H} {b rt N bg : Nat} {me law fee fr lines : Int} {pl to ow lb ro : Nat → Int}
theorem c_X3_widthOf {i j : Nat} (HL : ly_at h b rt N me law fee fr lines bg pl to ow lb ro) (hi : i ≤ 40) (hj : j ≤ 40) : eb_T mX3_widthOf [.ref b, .int (eb_I (i : Int)), .int (eb_I (j : Int))] n h (eb_X (some (.int (eb_I (pl j - pl i - 1)))) n h) := by
  refine eb_T.of (by decide +kernel) (Nat.le_of_ble_eq_true rfl) ?_
  show eb_V _ _ 0 [.ref b, .int (eb_I (i : Int)), .int (eb_I (j : Int))] [] (n, 0, 0) h _
  obtain ⟨H_this, H_this_place, H_this_total, H_this_owner, H_this_lineBegin, H_this_row, H_this_roots⟩ := HL
  refine V_aload_n eX3_widthOf_0 rfl rfl ?_
  refine V_getf eX3_widthOf_1 H_this rfl ?_
  refine V_iload_n eX3_widthOf_4 rfl rfl ?_
  refine V_iald eX3_widthOf_5 H_this_place (by omega) ?_
  refine V_aload_n eX3_widthOf_6 rfl rfl ?_
  refine V_getf eX3_widthOf_7 H_this rfl ?_
  refine V_iload_n eX3_widthOf_10 rfl rfl ?_
  refine V_iald eX3_widthOf_11 H_this_place (by omega) ?_
  refine V_isub eX3_widthOf_12 ?_
  refine V_iconst eX3_widthOf_13 ?_
  refine V_isub eX3_widthOf_14 ?_
  exact V_iret eX3_widthOf_15 ⟨Nat.zero_le _, Nat.zero_le _⟩ rfl (rfl) (⟨rfl, rfl, rfl⟩)
theorem c_X3_tightPrice {over : Int} (HL : ly_at h b rt N me law fee fr lines bg pl to ow lb ro) (HO : ly_ok N me law fee fr) : eb_T mX3_tightPrice [.ref b, .int (eb_I over)] n h (eb_X (some (.int (eb_I (lt_tight law over)))) n h) := by
  refine eb_T.of (by decide +kernel) (Nat.le_of_ble_eq_true rfl) ?_
  show eb_V _ _ 0 [.ref b, .int (eb_I over)] [] (n, 0, 0) h _
  obtain ⟨H_this, H_this_place, H_this_total, H_this_owner, H_this_lineBegin, H_this_row, H_this_roots⟩ := HL
  obtain ⟨hN, hme, hlaw, hfee, hfr⟩ := HO
  obtain rfl | rfl | rfl | rfl | rfl : law = 0 ∨ law = 1 ∨ law = 2 ∨ law = 3 ∨ law = 4 := by omega
  · refine V_aload_n eX3_tightPrice_0 rfl rfl ?_
    refine V_getf eX3_tightPrice_1 H_this rfl ?_
    refine V_tswIn (tgt := 36) (off := 32) eX3_tightPrice_4 (by omega) (by omega) rfl rfl ?_
    refine V_iload_n eX3_tightPrice_36 rfl rfl ?_
    refine V_iload_n eX3_tightPrice_37 rfl rfl ?_
    refine V_imul eX3_tightPrice_38 ?_
    exact V_iret eX3_tightPrice_39 ⟨Nat.zero_le _, Nat.zero_le _⟩ rfl (rfl) (⟨rfl, rfl, rfl⟩)
  · refine V_aload_n eX3_tightPrice_0 rfl rfl ?_
    refine V_getf eX3_tightPrice_1 H_this rfl ?_
    refine V_tswIn (tgt := 50) (off := 46) eX3_tightPrice_4 (by omega) (by omega) rfl rfl ?_
    refine V_iload_n eX3_tightPrice_50 rfl rfl ?_
    exact V_iret eX3_tightPrice_51 ⟨Nat.zero_le _, Nat.zero_le _⟩ rfl (rfl) (⟨rfl, rfl, rfl⟩)
  · refine V_aload_n eX3_tightPrice_0 rfl rfl ?_
    refine V_getf eX3_tightPrice_1 H_this rfl ?_
    refine V_tswIn (tgt := 40) (off := 36) eX3_tightPrice_4 (by omega) (by omega) rfl rfl ?_
    refine V_bipush eX3_tightPrice_40 (by decide) ?_
    refine V_iload_n eX3_tightPrice_42 rfl rfl ?_
    refine V_imul eX3_tightPrice_43 ?_
    exact V_iret eX3_tightPrice_44 ⟨Nat.zero_le _, Nat.zero_le _⟩ rfl (rfl) (⟨rfl, rfl, rfl⟩)
  · refine V_aload_n eX3_tightPrice_0 rfl rfl ?_
    refine V_getf eX3_tightPrice_1 H_this rfl ?_
    refine V_tswIn (tgt := 45) (off := 41) eX3_tightPrice_4 (by omega) (by omega) rfl rfl ?_
    refine V_bipush eX3_tightPrice_45 (by decide) ?_
    refine V_iload_n eX3_tightPrice_47 rfl rfl ?_
    refine V_iadd eX3_tightPrice_48 ?_
    exact V_iret eX3_tightPrice_49 ⟨Nat.zero_le _, Nat.zero_le _⟩ rfl (rfl) (⟨rfl, rfl, rfl⟩)
  · refine V_aload_n eX3_tightPrice_0 rfl rfl ?_
    refine V_getf eX3_tightPrice_1 H_this rfl ?_
    refine V_tswOut (tgt := 50) eX3_tightPrice_4 (by omega) (by omega) rfl ?_
    refine V_iload_n eX3_tightPrice_50 rfl rfl ?_
    exact V_iret eX3_tightPrice_51 ⟨Nat.zero_le _, Nat.zero_le _⟩ rfl (rfl) (⟨rfl, rfl, rfl⟩)
theorem c_X3_loosePrice {s : Int} (HL : ly_at h b rt N me law fee fr lines bg pl to ow lb ro) (HO : ly_ok N me law fee fr) (hs : 0 ≤ s ∧ s < 200) : eb_T mX3_loosePrice [.ref b, .int (eb_I s)] n h (eb_X (some (.int (eb_I (lt_loose law s)))) n h) := by
  refine eb_T.of (by decide +kernel) (Nat.le_of_ble_eq_true rfl) ?_
  show eb_V _ _ 0 [.ref b, .int (eb_I s)] [] (n, 0, 0) h _
  obtain ⟨H_this, H_this_place, H_this_total, H_this_owner, H_this_lineBegin, H_this_row, H_this_roots⟩ := HL
  obtain ⟨hN, hme, hlaw, hfee, hfr⟩ := HO
  obtain rfl | rfl | rfl | rfl | rfl : law = 0 ∨ law = 1 ∨ law = 2 ∨ law = 3 ∨ law = 4 := by omega
  · refine V_aload_n eX3_loosePrice_0 rfl rfl ?_
    refine V_getf eX3_loosePrice_1 H_this rfl ?_
    refine V_tswIn (tgt := 40) (off := 36) eX3_loosePrice_4 (by omega) (by omega) rfl rfl ?_
    refine V_iload_n eX3_loosePrice_40 rfl rfl ?_
    refine V_iload_n eX3_loosePrice_41 rfl rfl ?_
    refine V_imul eX3_loosePrice_42 ?_
    exact V_iret eX3_loosePrice_43 ⟨Nat.zero_le _, Nat.zero_le _⟩ rfl (rfl) (⟨rfl, rfl, rfl⟩)
  · refine V_aload_n eX3_loosePrice_0 rfl rfl ?_
    refine V_getf eX3_loosePrice_1 H_this rfl ?_
    refine V_tswIn (tgt := 66) (off := 62) eX3_loosePrice_4 (by omega) (by omega) rfl rfl ?_
    refine V_iload_n eX3_loosePrice_66 rfl rfl ?_
    exact V_iret eX3_loosePrice_67 ⟨Nat.zero_le _, Nat.zero_le _⟩ rfl (rfl) (⟨rfl, rfl, rfl⟩)
  · refine V_aload_n eX3_loosePrice_0 rfl rfl ?_
    refine V_getf eX3_loosePrice_1 H_this rfl ?_
    refine V_tswIn (tgt := 66) (off := 62) eX3_loosePrice_4 (by omega) (by omega) rfl rfl ?_
    refine V_iload_n eX3_loosePrice_66 rfl rfl ?_
    exact V_iret eX3_loosePrice_67 ⟨Nat.zero_le _, Nat.zero_le _⟩ rfl (rfl) (⟨rfl, rfl, rfl⟩)
  · refine V_aload_n eX3_loosePrice_0 rfl rfl ?_
    refine V_getf eX3_loosePrice_1 H_this rfl ?_
    refine V_tswIn (tgt := 44) (off := 40) eX3_loosePrice_4 (by omega) (by omega) rfl rfl ?_
    refine V_iload_n eX3_loosePrice_44 rfl rfl ?_
    refine V_iconst eX3_loosePrice_45 ?_
    refine V_idivI eX3_loosePrice_46 (by omega) (by omega) ?_
    exact V_iret eX3_loosePrice_47 ⟨Nat.zero_le _, Nat.zero_le _⟩ rfl (rfl) (⟨rfl, rfl, rfl⟩)
  · refine V_aload_n eX3_loosePrice_0 rfl rfl ?_
    refine V_getf eX3_loosePrice_1 H_this rfl ?_
    refine V_tswIn (tgt := 48) (off := 44) eX3_loosePrice_4 (by omega) (by omega) rfl rfl ?_
    refine V_iload_n eX3_loosePrice_48 rfl rfl ?_
    refine V_sipush eX3_loosePrice_49 (by decide) ?_
    refine V_icmp_ge (tgt := 64) eX3_loosePrice_52 rfl (by omega) (fun c_52 => ?_) (fun c_52 => ?_)
    · exact absurd c_52 (by omega)
    · refine V_aload_n eX3_loosePrice_55 rfl rfl ?_
      refine V_getf eX3_loosePrice_56 H_this rfl ?_
      refine V_iload_n eX3_loosePrice_59 rfl rfl ?_
      refine V_iald eX3_loosePrice_60 H_this_roots (by omega) ?_
      refine V_goto (tgt := 65) eX3_loosePrice_61 rfl ?_
      exact V_iret eX3_loosePrice_65 ⟨Nat.zero_le _, Nat.zero_le _⟩ rfl (rfl) (⟨rfl, rfl, rfl⟩)
theorem c_X3_priceOf {s : Int} {j : Nat} (HL : ly_at h b rt N me law fee fr lines bg pl to ow lb ro) (HO : ly_ok N me law fee fr) (hs : -3700 ≤ s ∧ s < 200) (hj : j ≤ 40) : eb_T mX3_priceOf [.ref b, .int (eb_I s), .int (eb_I (j : Int))] n h (eb_X (some (.int (eb_I (lt_pr N law fee fr s j)))) n h) := by
  refine eb_T.of (by decide +kernel) (Nat.le_of_ble_eq_true rfl) ?_
  show eb_V _ _ 0 [.ref b, .int (eb_I s), .int (eb_I (j : Int))] [] (n, 0, 0) h _
  have HL' := HL
  have HO' := HO
  obtain ⟨H_this, H_this_place, H_this_total, H_this_owner, H_this_lineBegin, H_this_row, H_this_roots⟩ := HL
  obtain ⟨hN, hme, hlaw, hfee, hfr⟩ := HO
  refine V_iload_n eX3_priceOf_0 rfl rfl ?_
  refine V_if_ge (tgt := 16) eX3_priceOf_1 rfl (by omega) (fun c_1 => ?_) (fun c_1 => ?_)
  · refine V_aload_n eX3_priceOf_16 rfl rfl ?_
    refine V_getf eX3_priceOf_17 H_this rfl ?_
    refine V_if_eq (tgt := 38) eX3_priceOf_20 rfl (by omega) (fun c_20 => ?_) (fun c_20 => ?_)
    · refine V_aload_n eX3_priceOf_38 rfl rfl ?_
      refine V_getf eX3_priceOf_39 H_this rfl ?_
      refine V_aload_n eX3_priceOf_42 rfl rfl ?_
      refine V_iload_n eX3_priceOf_43 rfl rfl ?_
      refine V_cvi eX3_priceOf_44 (c_X3_loosePrice HL' HO' (by omega)) H_this rfl rfl (Nat.le_of_ble_eq_true rfl) ⟨rfl, rfl⟩ ⟨Nat.zero_le _, Nat.zero_le _⟩ ?_
      refine V_iadd eX3_priceOf_47 ?_
      rw [show fee + lt_loose law s = lt_pr N law fee fr s j by unfold lt_pr; rw [if_neg (by omega), if_neg (by omega)]]
      exact V_iret eX3_priceOf_48 ⟨Nat.zero_le _, Nat.zero_le _⟩ rfl (rfl) (⟨rfl, rfl, rfl⟩)
    · refine V_iload_n eX3_priceOf_23 rfl rfl ?_
      refine V_aload_n eX3_priceOf_24 rfl rfl ?_
      refine V_getf eX3_priceOf_25 H_this rfl ?_
      refine V_icmp_ne (tgt := 38) eX3_priceOf_28 rfl (by omega) (fun c_28 => ?_) (fun c_28 => ?_)
      · refine V_aload_n eX3_priceOf_38 rfl rfl ?_
        refine V_getf eX3_priceOf_39 H_this rfl ?_
        refine V_aload_n eX3_priceOf_42 rfl rfl ?_
        refine V_iload_n eX3_priceOf_43 rfl rfl ?_
        refine V_cvi eX3_priceOf_44 (c_X3_loosePrice HL' HO' (by omega)) H_this rfl rfl (Nat.le_of_ble_eq_true rfl) ⟨rfl, rfl⟩ ⟨Nat.zero_le _, Nat.zero_le _⟩ ?_
        refine V_iadd eX3_priceOf_47 ?_
        rw [show fee + lt_loose law s = lt_pr N law fee fr s j by unfold lt_pr; rw [if_neg (by omega), if_neg (by omega)]]
        exact V_iret eX3_priceOf_48 ⟨Nat.zero_le _, Nat.zero_le _⟩ rfl (rfl) (⟨rfl, rfl, rfl⟩)
      · refine V_aload_n eX3_priceOf_31 rfl rfl ?_
        refine V_getf eX3_priceOf_32 H_this rfl ?_
        refine V_eqI (b := lt_pr N law fee fr s j) (by unfold lt_pr; rw [if_neg (by omega), if_pos (by omega)]) ?_
        refine V_goto (tgt := 48) eX3_priceOf_35 rfl ?_
        exact V_iret eX3_priceOf_48 ⟨Nat.zero_le _, Nat.zero_le _⟩ rfl (rfl) (⟨rfl, rfl, rfl⟩)
  · refine V_aload_n eX3_priceOf_4 rfl rfl ?_
    refine V_getf eX3_priceOf_5 H_this rfl ?_
    refine V_aload_n eX3_priceOf_8 rfl rfl ?_
    refine V_iload_n eX3_priceOf_9 rfl rfl ?_
    refine V_ineg eX3_priceOf_10 ?_
    refine V_cvi eX3_priceOf_11 (c_X3_tightPrice HL' HO') H_this rfl rfl (Nat.le_of_ble_eq_true rfl) ⟨rfl, rfl⟩ ⟨Nat.zero_le _, Nat.zero_le _⟩ ?_
    refine V_iadd eX3_priceOf_14 ?_
    rw [show fee + lt_tight law (-s) = lt_pr N law fee fr s j by unfold lt_pr; rw [if_pos (by omega)]]
    exact V_iret eX3_priceOf_15 ⟨Nat.zero_le _, Nat.zero_le _⟩ rfl (rfl) (⟨rfl, rfl, rfl⟩)
theorem c_X3_price {i j : Nat} (HL : ly_at h b rt N me law fee fr lines bg pl to ow lb ro) (HO : ly_ok N me law fee fr) (hi : i ≤ 40) (hj : j ≤ 40) (hs : -3700 ≤ me - (pl j - pl i - 1) ∧ me - (pl j - pl i - 1) < 200) : eb_T mX3_price [.ref b, .int (eb_I (i : Int)), .int (eb_I (j : Int))] n h (eb_X (some (.int (eb_I (lt_pr N law fee fr (me - (pl j - pl i - 1)) j)))) n h) := by
  refine eb_T.of (by decide +kernel) (Nat.le_of_ble_eq_true rfl) ?_
  show eb_V _ _ 0 [.ref b, .int (eb_I (i : Int)), .int (eb_I (j : Int))] [] (n, 0, 0) h _
  have HL' := HL
  obtain ⟨H_this, H_this_place, H_this_total, H_this_owner, H_this_lineBegin, H_this_row, H_this_roots⟩ := HL
  refine V_aload_n eX3_price_0 rfl rfl ?_
  refine V_aload_n eX3_price_1 rfl rfl ?_
  refine V_getf eX3_price_2 H_this rfl ?_
  refine V_aload_n eX3_price_5 rfl rfl ?_
  refine V_iload_n eX3_price_6 rfl rfl ?_
  refine V_iload_n eX3_price_7 rfl rfl ?_
  refine V_cvi eX3_price_8 (c_X3_widthOf HL' hi hj) H_this rfl rfl (Nat.le_of_ble_eq_true rfl) ⟨rfl, rfl⟩ ⟨Nat.zero_le _, Nat.zero_le _⟩ ?_
  refine V_isub eX3_price_11 ?_
  refine V_iload_n eX3_price_12 rfl rfl ?_
  refine V_cvi eX3_price_13 (c_X3_priceOf HL' HO hs hj) H_this rfl rfl (Nat.le_of_ble_eq_true rfl) ⟨rfl, rfl⟩ ⟨Nat.zero_le _, Nat.zero_le _⟩ ?_
  exact V_iret eX3_price_16 ⟨Nat.zero_le _, Nat.zero_le _⟩ rfl (rfl) (⟨rfl, rfl, rfl⟩)
theorem c_X3_lastTotal (HL : ly_at h b rt N me law fee fr lines bg pl to ow lb ro) (hN : N ≤ 40) : eb_T mX3_lastTotal [.ref b] n h (eb_X (some (.int (eb_I (to N)))) n h) := by
  refine eb_T.of (by decide +kernel) (Nat.le_of_ble_eq_true rfl) ?_
  show eb_V _ _ 0 [.ref b] [] (n, 0, 0) h _
  obtain ⟨H_this, H_this_place, H_this_total, H_this_owner, H_this_lineBegin, H_this_row, H_this_roots⟩ := HL
  refine V_aload_n eX3_lastTotal_0 rfl rfl ?_
  refine V_getf eX3_lastTotal_1 H_this rfl ?_
  refine V_aload_n eX3_lastTotal_4 rfl rfl ?_
  refine V_getf eX3_lastTotal_5 H_this rfl ?_
  refine V_iald eX3_lastTotal_8 H_this_total (by omega) ?_
  exact V_iret eX3_lastTotal_9 ⟨Nat.zero_le _, Nat.zero_le _⟩ rfl (rfl) (⟨rfl, rfl, rfl⟩)
theorem c_X3_beginOf {k : Int} {L : Nat} (HL : ly_at h b rt N me law fee fr (L : Int) bg pl to ow lb ro) (hL : L ≤ 40) (hk : -2147483648 ≤ k ∧ k ≤ 2147483647) : eb_T mX3_beginOf [.ref b, .int (eb_I k)] n h (eb_X (some (.int (eb_I (if 0 ≤ k ∧ k < L then lb k.toNat else -1)))) n h) := by
  refine eb_T.of (by decide +kernel) (Nat.le_of_ble_eq_true rfl) ?_
  show eb_V _ _ 0 [.ref b, .int (eb_I k)] [] (n, 0, 0) h _
  obtain ⟨H_this, H_this_place, H_this_total, H_this_owner, H_this_lineBegin, H_this_row, H_this_roots⟩ := HL
  by_cases hc : 0 ≤ k ∧ k < L
  · rw [if_pos hc]
    refine V_iload_n eX3_beginOf_0 rfl rfl ?_
    refine V_if_lt (tgt := 21) eX3_beginOf_1 rfl (by omega) (fun c_1 => ?_) (fun c_1 => ?_)
    · exact absurd c_1 (by omega)
    · refine V_iload_n eX3_beginOf_4 rfl rfl ?_
      refine V_aload_n eX3_beginOf_5 rfl rfl ?_
      refine V_getf eX3_beginOf_6 H_this rfl ?_
      refine V_icmp_ge (tgt := 21) eX3_beginOf_9 rfl (by omega) (fun c_9 => ?_) (fun c_9 => ?_)
      · exact absurd c_9 (by omega)
      · refine V_aload_n eX3_beginOf_12 rfl rfl ?_
        refine V_getf eX3_beginOf_13 H_this rfl ?_
        refine V_iload_n eX3_beginOf_16 rfl rfl ?_
        refine V_iald eX3_beginOf_17 H_this_lineBegin (by omega) ?_
        refine V_goto (tgt := 22) eX3_beginOf_18 rfl ?_
        exact V_iret eX3_beginOf_22 ⟨Nat.zero_le _, Nat.zero_le _⟩ rfl (rfl) (⟨rfl, rfl, rfl⟩)
  · rw [if_neg hc]
    refine V_iload_n eX3_beginOf_0 rfl rfl ?_
    refine V_if_lt (tgt := 21) eX3_beginOf_1 rfl (by omega) (fun c_1 => ?_) (fun c_1 => ?_)
    · refine V_iconst eX3_beginOf_21 ?_
      exact V_iret eX3_beginOf_22 ⟨Nat.zero_le _, Nat.zero_le _⟩ rfl (rfl) (⟨rfl, rfl, rfl⟩)
    · refine V_iload_n eX3_beginOf_4 rfl rfl ?_
      refine V_aload_n eX3_beginOf_5 rfl rfl ?_
      refine V_getf eX3_beginOf_6 H_this rfl ?_
      refine V_icmp_ge (tgt := 21) eX3_beginOf_9 rfl (by omega) (fun c_9 => ?_) (fun c_9 => ?_)
      · refine V_iconst eX3_beginOf_21 ?_
        exact V_iret eX3_beginOf_22 ⟨Nat.zero_le _, Nat.zero_le _⟩ rfl (rfl) (⟨rfl, rfl, rfl⟩)
      · exact absurd c_9 (by omega)
theorem c_X3_endOf {k L : Nat} (HL : ly_at h b rt N me law fee fr (L : Int) bg pl to ow lb ro) (hL : L ≤ 40) (hN : N ≤ 40) (hk : k ≤ 40) : eb_T mX3_endOf [.ref b, .int (eb_I (k : Int))] n h (eb_X (some (.int (eb_I (if k + 1 < L then lb (k + 1) else (N : Int))))) n h) := by
  refine eb_T.of (by decide +kernel) (Nat.le_of_ble_eq_true rfl) ?_
  show eb_V _ _ 0 [.ref b, .int (eb_I (k : Int))] [] (n, 0, 0) h _
  obtain ⟨H_this, H_this_place, H_this_total, H_this_owner, H_this_lineBegin, H_this_row, H_this_roots⟩ := HL
  by_cases hc : k + 1 < L
  · rw [if_pos hc]
    refine V_iload_n eX3_endOf_0 rfl rfl ?_
    refine V_iconst eX3_endOf_1 ?_
    refine V_iadd eX3_endOf_2 ?_
    refine V_aload_n eX3_endOf_3 rfl rfl ?_
    refine V_getf eX3_endOf_4 H_this rfl ?_
    refine V_icmp_ge (tgt := 21) eX3_endOf_7 rfl (by omega) (fun c_7 => ?_) (fun c_7 => ?_)
    · exact absurd c_7 (by omega)
    · refine V_aload_n eX3_endOf_10 rfl rfl ?_
      refine V_getf eX3_endOf_11 H_this rfl ?_
      refine V_iload_n eX3_endOf_14 rfl rfl ?_
      refine V_iconst eX3_endOf_15 ?_
      refine V_iadd eX3_endOf_16 ?_
      refine V_iald eX3_endOf_17 H_this_lineBegin (by omega) ?_
      refine V_goto (tgt := 25) eX3_endOf_18 rfl ?_
      exact V_iret eX3_endOf_25 ⟨Nat.zero_le _, Nat.zero_le _⟩ rfl (rfl) (⟨rfl, rfl, rfl⟩)
  · rw [if_neg hc]
    refine V_iload_n eX3_endOf_0 rfl rfl ?_
    refine V_iconst eX3_endOf_1 ?_
    refine V_iadd eX3_endOf_2 ?_
    refine V_aload_n eX3_endOf_3 rfl rfl ?_
    refine V_getf eX3_endOf_4 H_this rfl ?_
    refine V_icmp_ge (tgt := 21) eX3_endOf_7 rfl (by omega) (fun c_7 => ?_) (fun c_7 => ?_)
    · refine V_aload_n eX3_endOf_21 rfl rfl ?_
      refine V_getf eX3_endOf_22 H_this rfl ?_
      exact V_iret eX3_endOf_25 ⟨Nat.zero_le _, Nat.zero_le _⟩ rfl (rfl) (⟨rfl, rfl, rfl⟩)
    · exact absurd c_7 (by omega)
theorem c_X3_isBegin {e : Nat} (HL : ly_at h b rt N me law fee fr lines bg pl to ow lb ro) (hb : bg < 2 ^ 60) (he : e ≤ 41) : eb_T mX3_isBegin [.ref b, .int (eb_I (e : Int))] n h (eb_X (some (.int (eb_I ((bg / 2 ^ e % 2 : Nat) : Int)))) n h) := by
  refine eb_T.of (by decide +kernel) (Nat.le_of_ble_eq_true rfl) ?_
  show eb_V _ _ 0 [.ref b, .int (eb_I (e : Int))] [] (n, 0, 0) h _
  obtain ⟨H_this, H_this_place, H_this_total, H_this_owner, H_this_lineBegin, H_this_row, H_this_roots⟩ := HL
  have hd : bg / 2 ^ e ≤ bg := Nat.div_le_self _ _
  have hm : bg / 2 ^ e % 2 < 2 := Nat.mod_lt _ (by decide)
  generalize hx : bg / 2 ^ e = x at hd hm ⊢
  by_cases hc : x % 2 = 1
  · rw [hc]
    refine V_aload_n eX3_isBegin_0 rfl rfl ?_
    refine V_getf eX3_isBegin_1 H_this rfl ?_
    refine V_iload_n eX3_isBegin_4 rfl rfl ?_
    refine V_lshr eX3_isBegin_5 (eb_shr (by omega) (by omega)) ?_
    rw [hx]
    refine V_lconst (b := 1) eX3_isBegin_6 (by decide) ?_
    refine V_land eX3_isBegin_7 (eb_and1 (by omega)) ?_
    rw [hc]
    refine V_lconst (b := 1) eX3_isBegin_8 (by decide) ?_
    refine V_lcmpI eX3_isBegin_9 (by decide) ?_
    refine V_if_ne (tgt := 17) eX3_isBegin_10 rfl (by decide) (fun c_10 => absurd rfl c_10) (fun c_10 => ?_)
    refine V_iconst eX3_isBegin_13 ?_
    refine V_goto (tgt := 18) eX3_isBegin_14 rfl ?_
    exact V_iret eX3_isBegin_18 ⟨Nat.zero_le _, Nat.zero_le _⟩ rfl (rfl) (⟨rfl, rfl, rfl⟩)
  · rw [show x % 2 = 0 by omega]
    refine V_aload_n eX3_isBegin_0 rfl rfl ?_
    refine V_getf eX3_isBegin_1 H_this rfl ?_
    refine V_iload_n eX3_isBegin_4 rfl rfl ?_
    refine V_lshr eX3_isBegin_5 (eb_shr (by omega) (by omega)) ?_
    rw [hx]
    refine V_lconst (b := 1) eX3_isBegin_6 (by decide) ?_
    refine V_land eX3_isBegin_7 (eb_and1 (by omega)) ?_
    rw [show x % 2 = 0 by omega]
    refine V_lconst (b := 1) eX3_isBegin_8 (by decide) ?_
    refine V_lcmpI eX3_isBegin_9 (by decide) ?_
    refine V_if_ne (tgt := 17) eX3_isBegin_10 rfl (by decide) (fun c_10 => ?_) (fun c_10 => absurd c_10 (by decide))
    refine V_iconst eX3_isBegin_17 ?_
    exact V_iret eX3_isBegin_18 ⟨Nat.zero_le _, Nat.zero_le _⟩ rfl (rfl) (⟨rfl, rfl, rfl⟩)
end LY
