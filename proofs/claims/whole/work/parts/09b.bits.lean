theorem nx_and (a b : Nat) : nI a &&& nI b = nI (a &&& b) := by
  apply Int32.toBitVec_inj.1
  show BitVec.ofNat 32 a &&& BitVec.ofNat 32 b = BitVec.ofNat 32 (a &&& b)
  apply BitVec.eq_of_getLsbD_eq
  intro i hi
  simp [hi]
theorem wb_tb (n : Nat) : (lN n).toBitVec = BitVec.ofNat 64 n := rfl
theorem wb_inj {a b : Int64} (h : a.toBitVec = b.toBitVec) : a = b := Int64.toBitVec_inj.mp h
theorem wb_tn {n : Nat} (h : n < 2 ^ 64) : (lN n).toBitVec.toNat = n := by rw [wb_tb, BitVec.toNat_ofNat, Nat.mod_eq_of_lt h]
theorem wb_c : ∀ k, k < 64 → ((nI k).toInt64 &&& 63) = lN k := by decide +kernel
theorem wb_sm : ∀ k, k < 64 → (BitVec.ofNat 64 k).smod 64 = BitVec.ofNat 64 k := by decide +kernel
theorem wb_lt2 {a b : Nat} (h : a < b) : 2 ^ a < 2 ^ b := Nat.pow_lt_pow_right (by decide) h
theorem wb_shl (n : Nat) {k : Nat} (hk : k < 64) : lN n <<< ((nI k).toInt64 &&& 63) = lN (n * 2 ^ k) := by
  rw [wb_c k hk]
  apply wb_inj
  rw [Int64.toBitVec_shiftLeft, wb_tb, wb_tb, wb_tb, wb_sm k hk]
  apply BitVec.eq_of_toNat_eq
  rw [BitVec.shiftLeft_eq', BitVec.toNat_shiftLeft, BitVec.toNat_ofNat, BitVec.toNat_ofNat, BitVec.toNat_ofNat, Nat.mod_eq_of_lt (show k < 2 ^ 64 by omega), Nat.shiftLeft_eq, Nat.mul_mod, Nat.mod_mod, ← Nat.mul_mod]
theorem wb_and {a b : Nat} (ha : a < 2 ^ 64) (hb : b < 2 ^ 64) : lN a &&& lN b = lN (a &&& b) := by
  apply wb_inj
  rw [Int64.toBitVec_and, wb_tb, wb_tb, wb_tb]
  apply BitVec.eq_of_toNat_eq
  rw [BitVec.toNat_and, BitVec.toNat_ofNat, BitVec.toNat_ofNat, BitVec.toNat_ofNat, Nat.mod_eq_of_lt ha, Nat.mod_eq_of_lt hb, Nat.mod_eq_of_lt (Nat.and_lt_two_pow _ hb)]
theorem wb_or {a b : Nat} (ha : a < 2 ^ 64) (hb : b < 2 ^ 64) : lN a ||| lN b = lN (a ||| b) := by
  apply wb_inj
  rw [Int64.toBitVec_or, wb_tb, wb_tb, wb_tb]
  apply BitVec.eq_of_toNat_eq
  rw [BitVec.toNat_or, BitVec.toNat_ofNat, BitVec.toNat_ofNat, BitVec.toNat_ofNat, Nat.mod_eq_of_lt ha, Nat.mod_eq_of_lt hb, Nat.mod_eq_of_lt (Nat.or_lt_two_pow ha hb)]
theorem wb_mask {n k : Nat} (hn : n < 2 ^ 64) (hk : k < 64) : lN n &&& lN (2 ^ k - 1) = lN (n % 2 ^ k) := by
  rw [wb_and hn (by have := wb_lt2 hk; omega), Nat.and_two_pow_sub_one_eq_mod]
theorem pf_lI {a : Nat} (h : a < 2 ^ 63) : (lN a).toInt = (a : Int) := lg_ofNat_toInt h
theorem pf_shr {a d : Nat} {D : Int64} (hD : (D.toBitVec.smod 64).toNat = d) (h : a < 2 ^ 62) : lN a >>> D = lN (a / 2 ^ d) := by
  have hd : a / 2 ^ d ≤ a := Nat.div_le_self _ _
  apply Int64.toInt_inj.mp
  have e : (lN a >>> D).toInt = (lN a).toInt >>> d := by
    rw [← hD]
    exact BitVec.toInt_sshiftRight ..
  rw [e, Int.shiftRight_eq_div_pow, pf_lI (by omega), pf_lI (by omega)]
  rfl
theorem eb_Jn (n : Nat) : eb_J (n : Int) = lN n := Int64.ofInt_eq_ofNat (n := n)
theorem eb_In (n : Nat) : eb_I (n : Int) = nI n := Int32.ofInt_eq_ofNat (n := n)
theorem eb_shl {a k : Nat} (hk : k < 64) : eb_J (a : Int) <<< ((eb_I (k : Int)).toInt64 &&& 63) = eb_J ((a * 2 ^ k : Nat) : Int) := by
  rw [eb_Jn, eb_Jn, eb_In, wb_shl a hk]
theorem eb_shr {a k : Nat} (ha : a < 2 ^ 62) (hk : k < 64) : eb_J (a : Int) >>> ((eb_I (k : Int)).toInt64 &&& 63) = eb_J ((a / 2 ^ k : Nat) : Int) := by
  rw [eb_Jn, eb_Jn, eb_In, wb_c k hk]
  exact pf_shr (by rw [wb_tb, wb_sm k hk, BitVec.toNat_ofNat]; exact Nat.mod_eq_of_lt (by omega)) ha
theorem eb_or {a b : Nat} (ha : a < 2 ^ 64) (hb : b < 2 ^ 64) : eb_J (a : Int) ||| eb_J (b : Int) = eb_J ((a ||| b : Nat) : Int) := by
  rw [eb_Jn, eb_Jn, eb_Jn, wb_or ha hb]
theorem eb_and {a b : Nat} (ha : a < 2 ^ 64) (hb : b < 2 ^ 64) : eb_J (a : Int) &&& eb_J (b : Int) = eb_J ((a &&& b : Nat) : Int) := by
  rw [eb_Jn, eb_Jn, eb_Jn, wb_and ha hb]
theorem eb_and1 {a : Nat} (ha : a < 2 ^ 64) : eb_J (a : Int) &&& eb_J 1 = eb_J ((a % 2 : Nat) : Int) := by
  have := eb_and (a := a) (b := 1) ha (by decide)
  rw [Nat.and_one_is_mod] at this
  exact this
theorem eb_and31 (a : Nat) : eb_I (a : Int) &&& eb_I 31 = eb_I ((a % 32 : Nat) : Int) := by
  rw [eb_In, eb_In, show eb_I 31 = nI 31 from eb_In 31, nx_and]
  congr 1
  exact Nat.and_two_pow_sub_one_eq_mod a 5
