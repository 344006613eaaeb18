/-- a contract with one end -/
def eb_X (r : Option Value) (n : Nat) (h : eb_H) : Option Value → Nat → eb_H → Prop := fun r1 n1 h1 => r1 = r ∧ n1 = n ∧ h1 = h
theorem eb_div {a b : Int} (ha : 0 ≤ a ∧ a ≤ 2147483647) (hb : 0 < b ∧ b ≤ 2147483647) : eb_I a / eb_I b = eb_I (a / b) := by
  apply Int32.toInt_inj.mp
  have h1 : a / b ≤ a := Int.ediv_le_self b ha.1
  have h2 : 0 ≤ a / b := Int.ediv_nonneg ha.1 (by omega)
  rw [Int32.toInt_div, eb_I_to (by omega), eb_I_to (by omega), eb_I_to (by omega), Int.tdiv_eq_ediv_of_nonneg ha.1]
  apply Int.bmod_eq_of_le <;> omega
theorem eb_lcmp {a b : Int} (ha : -9223372036854775808 ≤ a ∧ a ≤ 9223372036854775807) (hb : -9223372036854775808 ≤ b ∧ b ≤ 9223372036854775807) : lg_cmp (eb_J a) (eb_J b) = eb_I (if b < a then 1 else if a = b then 0 else -1) := by
  unfold lg_cmp
  have h1 : (eb_J a > eb_J b) ↔ b < a := by
    show eb_J b < eb_J a ↔ _
    rw [Int64.lt_iff_toInt_lt, eb_J_to ha, eb_J_to hb]
  have h2 : (eb_J a = eb_J b) ↔ a = b := by
    constructor
    · intro q; rw [← eb_J_to ha, q, eb_J_to hb]
    · rintro rfl; rfl
  by_cases c1 : b < a
  · rw [if_pos (h1.mpr c1), if_pos c1]; rfl
  · rw [if_neg (fun q => c1 (h1.mp q)), if_neg c1]
    by_cases c2 : a = b
    · rw [if_pos (h2.mpr c2), if_pos c2]; rfl
    · rw [if_neg (fun q => c2 (h2.mp q)), if_neg c2]; rfl
theorem eb_i2l {a : Int} (ha : -2147483648 ≤ a ∧ a ≤ 2147483647) : (eb_I a).toInt64 = eb_J a := by
  apply Int64.toInt_inj.mp
  rw [Int32.toInt_toInt64, eb_I_to ha, eb_J_to (by omega)]
theorem eb_l2i {a : Int} : (eb_J a).toInt32 = eb_I a := Int64.toInt32_ofInt
section EBM
variable {M : eb_M} {E : Nat → Nat → State → Prop} {pc pc' : Nat} {ls st stk : List Value} {z : eb_Z} {n c s : Nat} {h h' : eb_H} {Q : Nat → List Value → List Value → eb_Z → eb_H → Prop}
theorem V_idivI {a b : Int} (hd : eb_at M pc pc' .idiv 1) (ha : 0 ≤ a ∧ a ≤ 2147483647) (hb : 0 < b ∧ b ≤ 2147483647) (k : eb_V M E pc' ls (.int (eb_I (a / b)) :: st) z h Q) : eb_V M E pc ls (.int (eb_I b) :: .int (eb_I a) :: st) z h Q :=
  V_idiv hd (fun q => by rw [show (0 : Int32) = eb_I 0 from rfl, eb_I_inj (by omega) (by omega)] at q; omega) (eb_div ha hb) k
theorem V_iremI {a b : Int} (hd : eb_at M pc pc' .irem 1) (ha : 0 ≤ a ∧ a ≤ 2147483647) (hb : 0 < b ∧ b ≤ 2147483647) (k : eb_V M E pc' ls (.int (eb_I (a % b)) :: st) z h Q) : eb_V M E pc ls (.int (eb_I b) :: .int (eb_I a) :: st) z h Q :=
  V_irem hd (fun q => by rw [show (0 : Int32) = eb_I 0 from rfl, eb_I_inj (by omega) (by omega)] at q; omega) (by rw [eb_div ha hb, eb_I_mul, eb_I_sub, Int.emod_def, Int.mul_comm]) k
theorem V_i2lI {a : Int} (hd : eb_at M pc pc' .i2l 1) (ha : -2147483648 ≤ a ∧ a ≤ 2147483647) (k : eb_V M E pc' ls (.long (eb_J a) :: st) z h Q) : eb_V M E pc ls (.int (eb_I a) :: st) z h Q := V_i2l hd (eb_i2l ha) k
theorem V_l2iI {a : Int} (hd : eb_at M pc pc' .l2i 1) (k : eb_V M E pc' ls (.int (eb_I a) :: st) z h Q) : eb_V M E pc ls (.long (eb_J a) :: st) z h Q := V_l2i hd eb_l2i k
theorem V_lcmpI {a b : Int} (hd : eb_at M pc pc' .lcmp 1) (hr : (-9223372036854775808 ≤ a ∧ a ≤ 9223372036854775807) ∧ (-9223372036854775808 ≤ b ∧ b ≤ 9223372036854775807)) (k : eb_V M E pc' ls (.int (eb_I (if b < a then 1 else if a = b then 0 else -1)) :: st) z h Q) : eb_V M E pc ls (.long (eb_J b) :: .long (eb_J a) :: st) z h Q := V_lcmp hd (eb_lcmp hr.1 hr.2) k
theorem V_cvi {M' : eb_M} {np b : Nat} {As fs : List Value} {v : Value} (hd : eb_cv M pc pc' M' np) (T : eb_T M' (.ref b :: As) n h (eb_X (some v) n h')) (he : h b = .inr (eb_ci M', fs)) (hs : stk = As.reverse ++ .ref b :: st) (hn : As.length = np) (hst : (st.map Value.category).sum ≤ 8) (hm : eb_mc M' = 0 ∧ eb_ms M' = 0) (hc : c ≤ eb_mc M ∧ s ≤ eb_ms M)
    (k : eb_V M E pc' ls (v :: st) (n, c, s) h' Q) : eb_V M E pc ls stk (n, c, s) h Q :=
  V_callv hd T he hs hn hst (by rw [hm.1, hm.2]; exact hc) (Or.inl hm.1) (fun r n1 h1 q => by obtain ⟨rfl, rfl, rfl⟩ := q; rw [hm.1, hm.2]; exact k)
theorem V_cvv {M' : eb_M} {np b : Nat} {As fs : List Value} (hd : eb_cv M pc pc' M' np) (T : eb_T M' (.ref b :: As) n h (eb_X none n h')) (he : h b = .inr (eb_ci M', fs)) (hs : stk = As.reverse ++ .ref b :: st) (hn : As.length = np) (hst : (st.map Value.category).sum ≤ 8) (hm : eb_mc M' = 0 ∧ eb_ms M' = 0) (hc : c ≤ eb_mc M ∧ s ≤ eb_ms M)
    (k : eb_V M E pc' ls st (n, c, s) h' Q) : eb_V M E pc ls stk (n, c, s) h Q :=
  V_callv hd T he hs hn hst (by rw [hm.1, hm.2]; exact hc) (Or.inl hm.1) (fun r n1 h1 q => by obtain ⟨rfl, rfl, rfl⟩ := q; rw [hm.1, hm.2]; exact k)
theorem V_csi {M' : eb_M} {np : Nat} {As : List Value} {v : Value} (hd : eb_cs M pc pc' M' np) (T : eb_T M' As n h (eb_X (some v) n h')) (hs : stk = As.reverse ++ st) (hn : As.length = np) (hst : (st.map Value.category).sum ≤ 8) (hm : eb_mc M' = 0 ∧ eb_ms M' = 0) (hc : c ≤ eb_mc M ∧ s ≤ eb_ms M)
    (k : eb_V M E pc' ls (v :: st) (n, c, s) h' Q) : eb_V M E pc ls stk (n, c, s) h Q :=
  V_calls hd T hs hn hst (by rw [hm.1, hm.2]; exact hc) (Or.inl hm.1) (fun r n1 h1 q => by obtain ⟨rfl, rfl, rfl⟩ := q; rw [hm.1, hm.2]; exact k)
theorem V_mmax {a b : Int} (hd : eb_cs M pc pc' mJ_max 2) (hr : (-2147483648 ≤ a ∧ a ≤ 2147483647) ∧ (-2147483648 ≤ b ∧ b ≤ 2147483647)) (hst : (st.map Value.category).sum ≤ 8) (hc : c ≤ eb_mc M ∧ s ≤ eb_ms M) (k : eb_V M E pc' ls (.int (eb_I (max a b)) :: st) (n, c, s) h Q) : eb_V M E pc ls (.int (eb_I b) :: .int (eb_I a) :: st) (n, c, s) h Q := by
  obtain ⟨idx, hd, rfl, hlk, hstt, hlv, hok⟩ := hd
  refine eb_V.go (fun l D cs b0 bs p e R s' m args below meth c' Zf C hE H locs l' hP hL kk => ?_) k
  have hts := C.2.2.2.2.1
  have hR := C.2.2.2.2.2.1
  have hC := C.2.2.2.2.2.2.1
  have hro := eb_room (b0 := b0) (bs := bs) hst
  have hlv' : 1 ≤ eb_lv M := by omega
  have e1 : (if eb_I a < eb_I b then eb_I b else eb_I a) = eb_I (max a b) := by
    by_cases q : a < b
    · rw [if_pos ((eb_I_lt hr.1 hr.2).mpr q)]; congr 1; omega
    · rw [if_neg (fun w => q ((eb_I_lt hr.1 hr.2).mp w))]; congr 1; omega
  refine va_mmax (x := eb_I a) (y := eb_I b) C.1 C.2.1 (C.2.2.1.trans hL.1.symm) C.2.2.2.1 (hts _ hlk) (hts _ hstt) (hts _ hok.2.1) (hts _ hok.1) (by omega) (by omega) (by simp only; omega) (by simp only; omega) hd ?_
  rw [e1]
  exact kk H locs l' hP hL
theorem V_mmin {a b : Int} (hd : eb_cs M pc pc' mJ_min 2) (hr : (-2147483648 ≤ a ∧ a ≤ 2147483647) ∧ (-2147483648 ≤ b ∧ b ≤ 2147483647)) (hst : (st.map Value.category).sum ≤ 8) (hc : c ≤ eb_mc M ∧ s ≤ eb_ms M) (k : eb_V M E pc' ls (.int (eb_I (min a b)) :: st) (n, c, s) h Q) : eb_V M E pc ls (.int (eb_I b) :: .int (eb_I a) :: st) (n, c, s) h Q := by
  obtain ⟨idx, hd, rfl, hlk, hstt, hlv, hok⟩ := hd
  refine eb_V.go (fun l D cs b0 bs p e R s' m args below meth c' Zf C hE H locs l' hP hL kk => ?_) k
  have hts := C.2.2.2.2.1
  have hR := C.2.2.2.2.2.1
  have hC := C.2.2.2.2.2.2.1
  have hro := eb_room (b0 := b0) (bs := bs) hst
  have hlv' : 1 ≤ eb_lv M := by omega
  have e1 : (if eb_I b < eb_I a then eb_I b else eb_I a) = eb_I (min a b) := by
    by_cases q : b < a
    · rw [if_pos ((eb_I_lt hr.2 hr.1).mpr q)]; congr 1; omega
    · rw [if_neg (fun w => q ((eb_I_lt hr.2 hr.1).mp w))]; congr 1; omega
  refine va_mmin (x := eb_I a) (y := eb_I b) C.1 C.2.1 (C.2.2.1.trans hL.1.symm) C.2.2.2.1 (hts _ hlk) (hts _ hstt) (hts _ hok.2.1) (hts _ hok.1) (by omega) (by omega) (by simp only; omega) (by simp only; omega) hd ?_
  rw [e1]
  exact kk H locs l' hP hL
/-- a contract whose end is told by a predicate -/
def eb_G (v : Option Value) (n : Nat) (G : eb_H → Prop) : Option Value → Nat → eb_H → Prop := fun r1 n1 h1 => r1 = v ∧ n1 = n ∧ G h1
theorem V_cvg {M' : eb_M} {np b : Nat} {As fs : List Value} {v : Option Value} {G : eb_H → Prop} (hd : eb_cv M pc pc' M' np) (T : eb_T M' (.ref b :: As) n h (eb_G v n G)) (he : h b = .inr (eb_ci M', fs)) (hs : stk = As.reverse ++ .ref b :: st) (hn : As.length = np) (hst : (st.map Value.category).sum ≤ 8) (hm : eb_mc M' = 0 ∧ eb_ms M' = 0) (hc : c ≤ eb_mc M ∧ s ≤ eb_ms M)
    (k : ∀ h', G h' → eb_V M E pc' ls (v.toList ++ st) (n, c, s) h' Q) : eb_V M E pc ls stk (n, c, s) h Q :=
  V_callv hd T he hs hn hst (by rw [hm.1, hm.2]; exact hc) (Or.inl hm.1) (fun r n1 h1 q => by obtain ⟨rfl, rfl, q⟩ := q; rw [hm.1, hm.2]; exact k _ q)
end EBM
