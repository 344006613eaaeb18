/-- numbers: an int is Int32.ofInt of a whole number -/
def eb_I (z : Int) : Int32 := Int32.ofInt z
def eb_J (z : Int) : Int64 := Int64.ofInt z
theorem eb_I_add (a b : Int) : eb_I a + eb_I b = eb_I (a + b) := (Int32.ofInt_add a b).symm
theorem eb_I_sub (a b : Int) : eb_I a - eb_I b = eb_I (a - b) := (Int32.ofInt_sub a b).symm
theorem eb_I_mul (a b : Int) : eb_I a * eb_I b = eb_I (a * b) := (Int32.ofInt_mul a b).symm
theorem eb_I_neg (a : Int) : - eb_I a = eb_I (-a) := (Int32.ofInt_neg a).symm
theorem eb_I_of (x : Int32) : eb_I x.toInt = x := Int32.ofInt_toInt x
theorem eb_I_to {a : Int} (h : -2147483648 ≤ a ∧ a ≤ 2147483647) : (eb_I a).toInt = a := Int32.toInt_ofInt_of_le (by show -2147483648 ≤ a; omega) (by show a < 2147483648; omega)
theorem eb_I_r (x : Int32) : -2147483648 ≤ x.toInt ∧ x.toInt ≤ 2147483647 := by
  have h1 := Int32.le_toInt x
  have h2 := Int32.toInt_lt x
  have e1 : (-2 ^ 31 : Int) = -2147483648 := by decide
  have e2 : (2 ^ 31 : Int) = 2147483648 := by decide
  omega
theorem eb_J_add (a b : Int) : eb_J a + eb_J b = eb_J (a + b) := (Int64.ofInt_add a b).symm
theorem eb_J_mul (a b : Int) : eb_J a * eb_J b = eb_J (a * b) := (Int64.ofInt_mul a b).symm
theorem eb_J_of (x : Int64) : eb_J x.toInt = x := Int64.ofInt_toInt x
theorem eb_J_to {a : Int} (h : -9223372036854775808 ≤ a ∧ a ≤ 9223372036854775807) : (eb_J a).toInt = a := Int64.toInt_ofInt_of_le (by show -9223372036854775808 ≤ a; omega) (by show a < 9223372036854775808; omega)
theorem eb_I_inj {a b : Int} (ha : -2147483648 ≤ a ∧ a ≤ 2147483647) (hb : -2147483648 ≤ b ∧ b ≤ 2147483647) : eb_I a = eb_I b ↔ a = b := by
  constructor
  · intro q
    rw [← eb_I_to ha, q, eb_I_to hb]
  · rintro rfl; rfl
theorem eb_I_lt {a b : Int} (ha : -2147483648 ≤ a ∧ a ≤ 2147483647) (hb : -2147483648 ≤ b ∧ b ≤ 2147483647) : eb_I a < eb_I b ↔ a < b := by
  rw [Int32.lt_iff_toInt_lt, eb_I_to ha, eb_I_to hb]
theorem eb_I_le {a b : Int} (ha : -2147483648 ≤ a ∧ a ≤ 2147483647) (hb : -2147483648 ≤ b ∧ b ≤ 2147483647) : eb_I a ≤ eb_I b ↔ a ≤ b := by
  rw [Int32.le_iff_toInt_le, eb_I_to ha, eb_I_to hb]
theorem eb_I_nat {a : Int} (h : 0 ≤ a ∧ a ≤ 2147483647) : (eb_I a).toNatClampNeg = a.toNat := by
  show (eb_I a).toInt.toNat = a.toNat
  rw [eb_I_to (by omega)]
theorem eb_I_in {a : Int} {n : Nat} (h : 0 ≤ a ∧ a < n) (hn : n ≤ 2147483647) : vp_in (eb_I a) n := by
  intro q
  rcases q with q | q
  · rw [show (0 : Int32) = eb_I 0 from rfl, eb_I_lt (by omega) (by omega)] at q
    omega
  · rw [eb_I_nat (by omega)] at q
    omega
/-- arrays of whole numbers -/
def eb_ia (n : Nat) (f : Nat → Int) : va_E := .inl (0, n, .inl (fun k => eb_I (f k)))
def eb_la (n : Nat) (f : Nat → Int) : va_E := .inl (1, n, .inr (.inl (fun k => eb_J (f k))))
def eb_za (n : Nat) (f : Nat → Int) : va_E := .inl (2, n, .inl (fun k => eb_I (f k)))
def eb_qa (t n : Nat) (f : Nat → Option Nat) : va_E := .inl (t, n, .inr (.inr (.inr (.inr f))))
def eb_set {α : Type} (f : Nat → α) (k : Nat) (x : α) : Nat → α := fun j => if j = k then x else f j
theorem eb_upd_I (f : Nat → Int) (k : Nat) (x : Int) : upd (fun j => eb_I (f j)) k (eb_I x) = fun j => eb_I (eb_set f k x j) := by
  funext j; simp only [upd, eb_set]; split <;> rfl
section EBR
variable {M : eb_M} {E : Nat → Nat → State → Prop} {pc pc' : Nat} {ls st : List Value} {z : eb_Z} {h : eb_H} {Q : Nat → List Value → List Value → eb_Z → eb_H → Prop}
theorem V_iadd {a b : Int} (hd : eb_at M pc pc' .iadd 1)  (k : eb_V M E pc' ls (.int (eb_I (a + b)) :: st) z h Q) : eb_V M E pc ls (.int (eb_I b) :: .int (eb_I a) :: st) z h Q := by
  obtain ⟨hd, rfl⟩ := hd
  refine eb_V.go (fun l D cs b0 bs p e R s m args below meth c Zf C hE H locs l' hP hL kk => ?_) k
  exact lv_iadd (x := eb_I a) (y := eb_I b) C.1 C.2.1 hd (by rw [eb_I_add]; exact kk H locs l' hP hL)
theorem V_isub {a b : Int} (hd : eb_at M pc pc' .isub 1)  (k : eb_V M E pc' ls (.int (eb_I (a - b)) :: st) z h Q) : eb_V M E pc ls (.int (eb_I b) :: .int (eb_I a) :: st) z h Q := by
  obtain ⟨hd, rfl⟩ := hd
  refine eb_V.go (fun l D cs b0 bs p e R s m args below meth c Zf C hE H locs l' hP hL kk => ?_) k
  exact lv_isub (x := eb_I a) (y := eb_I b) C.1 C.2.1 hd (by rw [eb_I_sub]; exact kk H locs l' hP hL)
theorem V_imul {a b : Int} (hd : eb_at M pc pc' .imul 1)  (k : eb_V M E pc' ls (.int (eb_I (a * b)) :: st) z h Q) : eb_V M E pc ls (.int (eb_I b) :: .int (eb_I a) :: st) z h Q := by
  obtain ⟨hd, rfl⟩ := hd
  refine eb_V.go (fun l D cs b0 bs p e R s m args below meth c Zf C hE H locs l' hP hL kk => ?_) k
  exact lv_imul (x := eb_I a) (y := eb_I b) C.1 C.2.1 hd (by rw [eb_I_mul]; exact kk H locs l' hP hL)
theorem V_ineg {a : Int} (hd : eb_at M pc pc' .ineg 1)  (k : eb_V M E pc' ls (.int (eb_I (-a)) :: st) z h Q) : eb_V M E pc ls (.int (eb_I a) :: st) z h Q := by
  obtain ⟨hd, rfl⟩ := hd
  refine eb_V.go (fun l D cs b0 bs p e R s m args below meth c Zf C hE H locs l' hP hL kk => ?_) k
  exact lv_ineg (x := eb_I a) C.1 C.2.1 hd (by rw [eb_I_neg]; exact kk H locs l' hP hL)
theorem V_ladd {a b : Int} (hd : eb_at M pc pc' .ladd 1)  (k : eb_V M E pc' ls (.long (eb_J (a + b)) :: st) z h Q) : eb_V M E pc ls (.long (eb_J b) :: .long (eb_J a) :: st) z h Q := by
  obtain ⟨hd, rfl⟩ := hd
  refine eb_V.go (fun l D cs b0 bs p e R s m args below meth c Zf C hE H locs l' hP hL kk => ?_) k
  exact lv_ladd (x := eb_J a) (y := eb_J b) C.1 C.2.1 hd (by rw [eb_J_add]; exact kk H locs l' hP hL)
theorem V_lmul {a b : Int} (hd : eb_at M pc pc' .lmul 1)  (k : eb_V M E pc' ls (.long (eb_J (a * b)) :: st) z h Q) : eb_V M E pc ls (.long (eb_J b) :: .long (eb_J a) :: st) z h Q := by
  obtain ⟨hd, rfl⟩ := hd
  refine eb_V.go (fun l D cs b0 bs p e R s m args below meth c Zf C hE H locs l' hP hL kk => ?_) k
  exact lv_lmul (x := eb_J a) (y := eb_J b) C.1 C.2.1 hd (by rw [eb_J_mul]; exact kk H locs l' hP hL)
theorem V_iand {x y v : Int32} (hd : eb_at M pc pc' .iand 1) (hv : x &&& y = v) (k : eb_V M E pc' ls (.int v :: st) z h Q) : eb_V M E pc ls (.int y :: .int x :: st) z h Q := by
  obtain ⟨hd, rfl⟩ := hd
  refine eb_V.go (fun l D cs b0 bs p e R s m args below meth c Zf C hE H locs l' hP hL kk => ?_) k
  exact lv_iand (x := x) (y := y) C.1 C.2.1 hd (by rw [hv]; exact kk H locs l' hP hL)
theorem V_land {x y v : Int64} (hd : eb_at M pc pc' .land 1) (hv : x &&& y = v) (k : eb_V M E pc' ls (.long v :: st) z h Q) : eb_V M E pc ls (.long y :: .long x :: st) z h Q := by
  obtain ⟨hd, rfl⟩ := hd
  refine eb_V.go (fun l D cs b0 bs p e R s m args below meth c Zf C hE H locs l' hP hL kk => ?_) k
  exact lv_land (x := x) (y := y) C.1 C.2.1 hd (by rw [hv]; exact kk H locs l' hP hL)
theorem V_lor {x y v : Int64} (hd : eb_at M pc pc' .lor 1) (hv : x ||| y = v) (k : eb_V M E pc' ls (.long v :: st) z h Q) : eb_V M E pc ls (.long y :: .long x :: st) z h Q := by
  obtain ⟨hd, rfl⟩ := hd
  refine eb_V.go (fun l D cs b0 bs p e R s m args below meth c Zf C hE H locs l' hP hL kk => ?_) k
  exact lv_lor (x := x) (y := y) C.1 C.2.1 hd (by rw [hv]; exact kk H locs l' hP hL)
theorem V_idiv {x y v : Int32} (hd : eb_at M pc pc' .idiv 1) (hne : ¬ y = 0) (hv : x / y = v) (k : eb_V M E pc' ls (.int v :: st) z h Q) : eb_V M E pc ls (.int y :: .int x :: st) z h Q := by
  obtain ⟨hd, rfl⟩ := hd
  refine eb_V.go (fun l D cs b0 bs p e R s m args below meth c Zf C hE H locs l' hP hL kk => ?_) k
  exact lv_idiv (x := x) (y := y) C.1 C.2.1 hd hne (by rw [hv]; exact kk H locs l' hP hL)
theorem V_irem {x y v : Int32} (hd : eb_at M pc pc' .irem 1) (hne : ¬ y = 0) (hv : x - x / y * y = v) (k : eb_V M E pc' ls (.int v :: st) z h Q) : eb_V M E pc ls (.int y :: .int x :: st) z h Q := by
  obtain ⟨hd, rfl⟩ := hd
  refine eb_V.go (fun l D cs b0 bs p e R s m args below meth c Zf C hE H locs l' hP hL kk => ?_) k
  exact lv_irem (x := x) (y := y) C.1 C.2.1 hd hne (by rw [hv]; exact kk H locs l' hP hL)
theorem V_lrem {x y v : Int64} (hd : eb_at M pc pc' .lrem 1) (hne : ¬ y = 0) (hv : x - x / y * y = v) (k : eb_V M E pc' ls (.long v :: st) z h Q) : eb_V M E pc ls (.long y :: .long x :: st) z h Q := by
  obtain ⟨hd, rfl⟩ := hd
  refine eb_V.go (fun l D cs b0 bs p e R s m args below meth c Zf C hE H locs l' hP hL kk => ?_) k
  exact lv_lrem (x := x) (y := y) C.1 C.2.1 hd hne (by rw [hv]; exact kk H locs l' hP hL)
theorem V_lshl {x v : Int64} {y : Int32} (hd : eb_at M pc pc' .lshl 1) (hv : x <<< (y.toInt64 &&& 63) = v) (k : eb_V M E pc' ls (.long v :: st) z h Q) : eb_V M E pc ls (.int y :: .long x :: st) z h Q := by
  obtain ⟨hd, rfl⟩ := hd
  refine eb_V.go (fun l D cs b0 bs p e R s m args below meth c Zf C hE H locs l' hP hL kk => ?_) k
  exact lv_lshl (x := x) (y := y) C.1 C.2.1 hd hv (kk H locs l' hP hL)
theorem V_lshr {x v : Int64} {y : Int32} (hd : eb_at M pc pc' .lshr 1) (hv : x >>> (y.toInt64 &&& 63) = v) (k : eb_V M E pc' ls (.long v :: st) z h Q) : eb_V M E pc ls (.int y :: .long x :: st) z h Q := by
  obtain ⟨hd, rfl⟩ := hd
  refine eb_V.go (fun l D cs b0 bs p e R s m args below meth c Zf C hE H locs l' hP hL kk => ?_) k
  exact lv_lshr (x := x) (y := y) C.1 C.2.1 hd hv (kk H locs l' hP hL)
theorem V_i2l {x : Int32} {v : Int64} (hd : eb_at M pc pc' .i2l 1) (hv : x.toInt64 = v) (k : eb_V M E pc' ls (.long v :: st) z h Q) : eb_V M E pc ls (.int x :: st) z h Q := by
  obtain ⟨hd, rfl⟩ := hd
  refine eb_V.go (fun l D cs b0 bs p e R s m args below meth c Zf C hE H locs l' hP hL kk => ?_) k
  exact lv_i2l (x := x) C.1 C.2.1 hd hv (kk H locs l' hP hL)
theorem V_l2i {x : Int64} {v : Int32} (hd : eb_at M pc pc' .l2i 1) (hv : x.toInt32 = v) (k : eb_V M E pc' ls (.int v :: st) z h Q) : eb_V M E pc ls (.long x :: st) z h Q := by
  obtain ⟨hd, rfl⟩ := hd
  refine eb_V.go (fun l D cs b0 bs p e R s m args below meth c Zf C hE H locs l' hP hL kk => ?_) k
  exact lv_l2i (x := x) C.1 C.2.1 hd hv (kk H locs l' hP hL)
theorem V_lcmp {x y : Int64} {v : Int32} (hd : eb_at M pc pc' .lcmp 1) (hv : lg_cmp x y = v) (k : eb_V M E pc' ls (.int v :: st) z h Q) : eb_V M E pc ls (.long y :: .long x :: st) z h Q := by
  obtain ⟨hd, rfl⟩ := hd
  refine eb_V.go (fun l D cs b0 bs p e R s m args below meth c Zf C hE H locs l' hP hL kk => ?_) k
  exact W.lcmp (x := x) (y := y) C.1 C.2.1 hd (by rw [hv]; exact kk H locs l' hP hL)
theorem V_iconst {a : Int} (hd : eb_at M pc pc' (.iconst a) 1)  (k : eb_V M E pc' ls (.int (eb_I a) :: st) z h Q) : eb_V M E pc ls (st) z h Q := by
  obtain ⟨hd, rfl⟩ := hd
  refine eb_V.go (fun l D cs b0 bs p e R s m args below meth c Zf C hE H locs l' hP hL kk => ?_) k
  exact lv_iconst (v := eb_I a) C.1 C.2.1 hd rfl (kk H locs l' hP hL)
theorem V_bipush {a : Int} (hd : eb_at M pc pc' (.bipush a) 2) (hv : (Int8.ofInt a).toInt32 = eb_I a) (k : eb_V M E pc' ls (.int (eb_I a) :: st) z h Q) : eb_V M E pc ls (st) z h Q := by
  obtain ⟨hd, rfl⟩ := hd
  refine eb_V.go (fun l D cs b0 bs p e R s m args below meth c Zf C hE H locs l' hP hL kk => ?_) k
  exact lv_bipush (v := eb_I a) C.1 C.2.1 hd hv (kk H locs l' hP hL)
theorem V_sipush {a : Int} (hd : eb_at M pc pc' (.sipush a) 3) (hv : (Int16.ofInt a).toInt32 = eb_I a) (k : eb_V M E pc' ls (.int (eb_I a) :: st) z h Q) : eb_V M E pc ls (st) z h Q := by
  obtain ⟨hd, rfl⟩ := hd
  refine eb_V.go (fun l D cs b0 bs p e R s m args below meth c Zf C hE H locs l' hP hL kk => ?_) k
  exact lv_sipush (v := eb_I a) C.1 C.2.1 hd hv (kk H locs l' hP hL)
theorem V_lconst {a : Fin 2} {b : Int} (hd : eb_at M pc pc' (.lconst a) 1) (hv : Int64.ofNat (a : Nat) = eb_J b) (k : eb_V M E pc' ls (.long (eb_J b) :: st) z h Q) : eb_V M E pc ls (st) z h Q := by
  obtain ⟨hd, rfl⟩ := hd
  refine eb_V.go (fun l D cs b0 bs p e R s m args below meth c Zf C hE H locs l' hP hL kk => ?_) k
  exact lv_lconst (v := eb_J b) C.1 C.2.1 hd hv (kk H locs l' hP hL)
theorem V_ldc {a : Int} {i : Nat} {v : Int32} (hd : eb_at M pc pc' (.ldc i) 2) (hw : Cond.constant (eb_y M).cls i v ∈ eb_ts) (hv : v = eb_I a) (k : eb_V M E pc' ls (.int (eb_I a) :: st) z h Q) : eb_V M E pc ls (st) z h Q := by
  obtain ⟨hd, rfl⟩ := hd
  refine eb_V.go (fun l D cs b0 bs p e R s m args below meth c Zf C hE H locs l' hP hL kk => ?_) k
  exact lv_ldc (v := eb_I a) C.1 C.2.1 C.2.2.2.1 (by rw [← hv]; exact C.2.2.2.2.1 _ hw) hd (kk H locs l' hP hL)
theorem V_ldc2 {a : Int} {i : Nat} {v : Int64} (hd : eb_at M pc pc' (.ldc2_w i) 3) (hw : Cond.constantLong (eb_y M).cls i v ∈ eb_ts) (hv : v = eb_J a) (k : eb_V M E pc' ls (.long (eb_J a) :: st) z h Q) : eb_V M E pc ls (st) z h Q := by
  obtain ⟨hd, rfl⟩ := hd
  refine eb_V.go (fun l D cs b0 bs p e R s m args below meth c Zf C hE H locs l' hP hL kk => ?_) k
  exact lv_ldc2 (v := eb_J a) C.1 C.2.1 C.2.2.2.1 (by rw [← hv]; exact C.2.2.2.2.1 _ hw) hd (kk H locs l' hP hL)
theorem V_dup {va : Value} (hd : eb_at M pc pc' .dup 1) (hc : va.category = 1) (k : eb_V M E pc' ls (va :: va :: st) z h Q) : eb_V M E pc ls (va :: st) z h Q := by
  obtain ⟨hd, rfl⟩ := hd
  refine eb_V.go (fun l D cs b0 bs p e R s m args below meth c Zf C hE H locs l' hP hL kk => ?_) k
  exact lv_dup C.1 C.2.1 hd (by rw [eb_v_cat]; exact hc) (kk H locs l' hP hL)
theorem V_dup2 {va vb : Value} (hd : eb_at M pc pc' .dup2 1) (hc : va.category = 1) (hc2 : vb.category = 1) (k : eb_V M E pc' ls (va :: vb :: va :: vb :: st) z h Q) : eb_V M E pc ls (va :: vb :: st) z h Q := by
  obtain ⟨hd, rfl⟩ := hd
  refine eb_V.go (fun l D cs b0 bs p e R s m args below meth c Zf C hE H locs l' hP hL kk => ?_) k
  exact lv_dup2_11 C.1 C.2.1 hd (by rw [eb_v_cat]; exact hc) (by rw [eb_v_cat]; exact hc2) (kk H locs l' hP hL)
theorem V_pop {va : Value} (hd : eb_at M pc pc' .pop 1) (hc : va.category = 1) (k : eb_V M E pc' ls (st) z h Q) : eb_V M E pc ls (va :: st) z h Q := by
  obtain ⟨hd, rfl⟩ := hd
  refine eb_V.go (fun l D cs b0 bs p e R s m args below meth c Zf C hE H locs l' hP hL kk => ?_) k
  exact lv_pop C.1 C.2.1 hd (by rw [eb_v_cat]; exact hc) (kk H locs l' hP hL)
theorem V_null  (hd : eb_at M pc pc' .aconst_null 1)  (k : eb_V M E pc' ls (.null :: st) z h Q) : eb_V M E pc ls (st) z h Q := by
  obtain ⟨hd, rfl⟩ := hd
  refine eb_V.go (fun l D cs b0 bs p e R s m args below meth c Zf C hE H locs l' hP hL kk => ?_) k
  exact lv_null C.1 C.2.1 hd (kk H locs l' hP hL)
theorem V_icmp_eq {a b off : Int} {tgt : Nat} (hd : eb_at M pc pc' (.if_icmp .eq off) 3) (ht : (pc : Int) + off = (tgt : Int)) (hr : (-2147483648 ≤ a ∧ a ≤ 2147483647) ∧ (-2147483648 ≤ b ∧ b ≤ 2147483647)) (k1 : a = b → eb_V M E tgt ls st z h Q) (k2 : ¬ a = b → eb_V M E pc' ls st z h Q) : eb_V M E pc ls (.int (eb_I b) :: .int (eb_I a) :: st) z h Q := by
  obtain ⟨hd, rfl⟩ := hd
  intro l D cs b0 bs p e R s m args below meth c Zf C hE hq H locs l' hP hL
  refine lv_icmp_eq (tgt := tgt) C.1 C.2.1 hd ht (fun q => k1 ?_ l D cs b0 bs p e R s m args below meth c Zf C hE hq H locs l' hP hL) (fun q => k2 ?_ l D cs b0 bs p e R s m args below meth c Zf C hE hq H locs l' hP hL)
  · first | exact (eb_I_inj hr.1 hr.2).mp q | (intro e; exact q ((eb_I_inj hr.1 hr.2).mpr e)) 
  · first | (intro e; exact q ((eb_I_inj hr.1 hr.2).mpr e)) | exact (eb_I_inj hr.1 hr.2).mp (Classical.not_not.mp q) | exact (eb_I_inj hr.1 hr.2).mp q
theorem V_if_eq {a  off : Int} {tgt : Nat} (hd : eb_at M pc pc' (.ifCond .eq off) 3) (ht : (pc : Int) + off = (tgt : Int)) (hr : -2147483648 ≤ a ∧ a ≤ 2147483647) (k1 : a = 0 → eb_V M E tgt ls st z h Q) (k2 : ¬ a = 0 → eb_V M E pc' ls st z h Q) : eb_V M E pc ls (.int (eb_I a) :: st) z h Q := by
  obtain ⟨hd, rfl⟩ := hd
  intro l D cs b0 bs p e R s m args below meth c Zf C hE hq H locs l' hP hL
  refine lv_if_eq (tgt := tgt) C.1 C.2.1 hd ht (fun q => k1 ?_ l D cs b0 bs p e R s m args below meth c Zf C hE hq H locs l' hP hL) (fun q => k2 ?_ l D cs b0 bs p e R s m args below meth c Zf C hE hq H locs l' hP hL)
  · first | exact (eb_I_inj hr (by omega : -2147483648 ≤ (0:Int) ∧ (0:Int) ≤ 2147483647)).mp q | (intro e; exact q ((eb_I_inj hr (by omega : -2147483648 ≤ (0:Int) ∧ (0:Int) ≤ 2147483647)).mpr e)) 
  · first | (intro e; exact q ((eb_I_inj hr (by omega : -2147483648 ≤ (0:Int) ∧ (0:Int) ≤ 2147483647)).mpr e)) | exact (eb_I_inj hr (by omega : -2147483648 ≤ (0:Int) ∧ (0:Int) ≤ 2147483647)).mp (Classical.not_not.mp q) | exact (eb_I_inj hr (by omega : -2147483648 ≤ (0:Int) ∧ (0:Int) ≤ 2147483647)).mp q
theorem V_icmp_ne {a b off : Int} {tgt : Nat} (hd : eb_at M pc pc' (.if_icmp .ne off) 3) (ht : (pc : Int) + off = (tgt : Int)) (hr : (-2147483648 ≤ a ∧ a ≤ 2147483647) ∧ (-2147483648 ≤ b ∧ b ≤ 2147483647)) (k1 : a ≠ b → eb_V M E tgt ls st z h Q) (k2 : a = b → eb_V M E pc' ls st z h Q) : eb_V M E pc ls (.int (eb_I b) :: .int (eb_I a) :: st) z h Q := by
  obtain ⟨hd, rfl⟩ := hd
  intro l D cs b0 bs p e R s m args below meth c Zf C hE hq H locs l' hP hL
  refine lv_icmp_ne (tgt := tgt) C.1 C.2.1 hd ht (fun q => k1 ?_ l D cs b0 bs p e R s m args below meth c Zf C hE hq H locs l' hP hL) (fun q => k2 ?_ l D cs b0 bs p e R s m args below meth c Zf C hE hq H locs l' hP hL)
  · first | exact (eb_I_inj hr.1 hr.2).mp q | (intro e; exact q ((eb_I_inj hr.1 hr.2).mpr e)) 
  · first | (intro e; exact q ((eb_I_inj hr.1 hr.2).mpr e)) | exact (eb_I_inj hr.1 hr.2).mp (Classical.not_not.mp q) | exact (eb_I_inj hr.1 hr.2).mp q
theorem V_if_ne {a  off : Int} {tgt : Nat} (hd : eb_at M pc pc' (.ifCond .ne off) 3) (ht : (pc : Int) + off = (tgt : Int)) (hr : -2147483648 ≤ a ∧ a ≤ 2147483647) (k1 : a ≠ 0 → eb_V M E tgt ls st z h Q) (k2 : a = 0 → eb_V M E pc' ls st z h Q) : eb_V M E pc ls (.int (eb_I a) :: st) z h Q := by
  obtain ⟨hd, rfl⟩ := hd
  intro l D cs b0 bs p e R s m args below meth c Zf C hE hq H locs l' hP hL
  refine lv_if_ne (tgt := tgt) C.1 C.2.1 hd ht (fun q => k1 ?_ l D cs b0 bs p e R s m args below meth c Zf C hE hq H locs l' hP hL) (fun q => k2 ?_ l D cs b0 bs p e R s m args below meth c Zf C hE hq H locs l' hP hL)
  · first | exact (eb_I_inj hr (by omega : -2147483648 ≤ (0:Int) ∧ (0:Int) ≤ 2147483647)).mp q | (intro e; exact q ((eb_I_inj hr (by omega : -2147483648 ≤ (0:Int) ∧ (0:Int) ≤ 2147483647)).mpr e)) 
  · first | (intro e; exact q ((eb_I_inj hr (by omega : -2147483648 ≤ (0:Int) ∧ (0:Int) ≤ 2147483647)).mpr e)) | exact (eb_I_inj hr (by omega : -2147483648 ≤ (0:Int) ∧ (0:Int) ≤ 2147483647)).mp (Classical.not_not.mp q) | exact (eb_I_inj hr (by omega : -2147483648 ≤ (0:Int) ∧ (0:Int) ≤ 2147483647)).mp q
theorem V_icmp_lt {a b off : Int} {tgt : Nat} (hd : eb_at M pc pc' (.if_icmp .lt off) 3) (ht : (pc : Int) + off = (tgt : Int)) (hr : (-2147483648 ≤ a ∧ a ≤ 2147483647) ∧ (-2147483648 ≤ b ∧ b ≤ 2147483647)) (k1 : a < b → eb_V M E tgt ls st z h Q) (k2 : ¬ a < b → eb_V M E pc' ls st z h Q) : eb_V M E pc ls (.int (eb_I b) :: .int (eb_I a) :: st) z h Q := by
  obtain ⟨hd, rfl⟩ := hd
  intro l D cs b0 bs p e R s m args below meth c Zf C hE hq H locs l' hP hL
  refine lv_icmp_lt (tgt := tgt) C.1 C.2.1 hd ht (fun q => k1 ?_ l D cs b0 bs p e R s m args below meth c Zf C hE hq H locs l' hP hL) (fun q => k2 ?_ l D cs b0 bs p e R s m args below meth c Zf C hE hq H locs l' hP hL)
  · first | exact (eb_I_lt hr.1 hr.2).mp q | (intro e; exact q ((eb_I_lt hr.1 hr.2).mpr e)) 
  · first | (intro e; exact q ((eb_I_lt hr.1 hr.2).mpr e)) | exact (eb_I_lt hr.1 hr.2).mp (Classical.not_not.mp q) | exact (eb_I_lt hr.1 hr.2).mp q
theorem V_if_lt {a  off : Int} {tgt : Nat} (hd : eb_at M pc pc' (.ifCond .lt off) 3) (ht : (pc : Int) + off = (tgt : Int)) (hr : -2147483648 ≤ a ∧ a ≤ 2147483647) (k1 : a < 0 → eb_V M E tgt ls st z h Q) (k2 : ¬ a < 0 → eb_V M E pc' ls st z h Q) : eb_V M E pc ls (.int (eb_I a) :: st) z h Q := by
  obtain ⟨hd, rfl⟩ := hd
  intro l D cs b0 bs p e R s m args below meth c Zf C hE hq H locs l' hP hL
  refine lv_if_lt (tgt := tgt) C.1 C.2.1 hd ht (fun q => k1 ?_ l D cs b0 bs p e R s m args below meth c Zf C hE hq H locs l' hP hL) (fun q => k2 ?_ l D cs b0 bs p e R s m args below meth c Zf C hE hq H locs l' hP hL)
  · first | exact (eb_I_lt hr (by omega : -2147483648 ≤ (0:Int) ∧ (0:Int) ≤ 2147483647)).mp q | (intro e; exact q ((eb_I_lt hr (by omega : -2147483648 ≤ (0:Int) ∧ (0:Int) ≤ 2147483647)).mpr e)) 
  · first | (intro e; exact q ((eb_I_lt hr (by omega : -2147483648 ≤ (0:Int) ∧ (0:Int) ≤ 2147483647)).mpr e)) | exact (eb_I_lt hr (by omega : -2147483648 ≤ (0:Int) ∧ (0:Int) ≤ 2147483647)).mp (Classical.not_not.mp q) | exact (eb_I_lt hr (by omega : -2147483648 ≤ (0:Int) ∧ (0:Int) ≤ 2147483647)).mp q
theorem V_icmp_ge {a b off : Int} {tgt : Nat} (hd : eb_at M pc pc' (.if_icmp .ge off) 3) (ht : (pc : Int) + off = (tgt : Int)) (hr : (-2147483648 ≤ a ∧ a ≤ 2147483647) ∧ (-2147483648 ≤ b ∧ b ≤ 2147483647)) (k1 : b ≤ a → eb_V M E tgt ls st z h Q) (k2 : ¬ b ≤ a → eb_V M E pc' ls st z h Q) : eb_V M E pc ls (.int (eb_I b) :: .int (eb_I a) :: st) z h Q := by
  obtain ⟨hd, rfl⟩ := hd
  intro l D cs b0 bs p e R s m args below meth c Zf C hE hq H locs l' hP hL
  refine lv_icmp_ge (tgt := tgt) C.1 C.2.1 hd ht (fun q => k1 ?_ l D cs b0 bs p e R s m args below meth c Zf C hE hq H locs l' hP hL) (fun q => k2 ?_ l D cs b0 bs p e R s m args below meth c Zf C hE hq H locs l' hP hL)
  · first | exact (eb_I_le hr.2 hr.1).mp q | (intro e; exact q ((eb_I_le hr.2 hr.1).mpr e)) 
  · first | (intro e; exact q ((eb_I_le hr.2 hr.1).mpr e)) | exact (eb_I_le hr.2 hr.1).mp (Classical.not_not.mp q) | exact (eb_I_le hr.2 hr.1).mp q
theorem V_if_ge {a  off : Int} {tgt : Nat} (hd : eb_at M pc pc' (.ifCond .ge off) 3) (ht : (pc : Int) + off = (tgt : Int)) (hr : -2147483648 ≤ a ∧ a ≤ 2147483647) (k1 : 0 ≤ a → eb_V M E tgt ls st z h Q) (k2 : ¬ 0 ≤ a → eb_V M E pc' ls st z h Q) : eb_V M E pc ls (.int (eb_I a) :: st) z h Q := by
  obtain ⟨hd, rfl⟩ := hd
  intro l D cs b0 bs p e R s m args below meth c Zf C hE hq H locs l' hP hL
  refine lv_if_ge (tgt := tgt) C.1 C.2.1 hd ht (fun q => k1 ?_ l D cs b0 bs p e R s m args below meth c Zf C hE hq H locs l' hP hL) (fun q => k2 ?_ l D cs b0 bs p e R s m args below meth c Zf C hE hq H locs l' hP hL)
  · first | exact (eb_I_le (by omega : -2147483648 ≤ (0:Int) ∧ (0:Int) ≤ 2147483647) hr).mp q | (intro e; exact q ((eb_I_le (by omega : -2147483648 ≤ (0:Int) ∧ (0:Int) ≤ 2147483647) hr).mpr e)) 
  · first | (intro e; exact q ((eb_I_le (by omega : -2147483648 ≤ (0:Int) ∧ (0:Int) ≤ 2147483647) hr).mpr e)) | exact (eb_I_le (by omega : -2147483648 ≤ (0:Int) ∧ (0:Int) ≤ 2147483647) hr).mp (Classical.not_not.mp q) | exact (eb_I_le (by omega : -2147483648 ≤ (0:Int) ∧ (0:Int) ≤ 2147483647) hr).mp q
theorem V_icmp_gt {a b off : Int} {tgt : Nat} (hd : eb_at M pc pc' (.if_icmp .gt off) 3) (ht : (pc : Int) + off = (tgt : Int)) (hr : (-2147483648 ≤ a ∧ a ≤ 2147483647) ∧ (-2147483648 ≤ b ∧ b ≤ 2147483647)) (k1 : b < a → eb_V M E tgt ls st z h Q) (k2 : ¬ b < a → eb_V M E pc' ls st z h Q) : eb_V M E pc ls (.int (eb_I b) :: .int (eb_I a) :: st) z h Q := by
  obtain ⟨hd, rfl⟩ := hd
  intro l D cs b0 bs p e R s m args below meth c Zf C hE hq H locs l' hP hL
  refine lv_icmp_gt (tgt := tgt) C.1 C.2.1 hd ht (fun q => k1 ?_ l D cs b0 bs p e R s m args below meth c Zf C hE hq H locs l' hP hL) (fun q => k2 ?_ l D cs b0 bs p e R s m args below meth c Zf C hE hq H locs l' hP hL)
  · first | exact (eb_I_lt hr.2 hr.1).mp q | (intro e; exact q ((eb_I_lt hr.2 hr.1).mpr e)) 
  · first | (intro e; exact q ((eb_I_lt hr.2 hr.1).mpr e)) | exact (eb_I_lt hr.2 hr.1).mp (Classical.not_not.mp q) | exact (eb_I_lt hr.2 hr.1).mp q
theorem V_if_gt {a  off : Int} {tgt : Nat} (hd : eb_at M pc pc' (.ifCond .gt off) 3) (ht : (pc : Int) + off = (tgt : Int)) (hr : -2147483648 ≤ a ∧ a ≤ 2147483647) (k1 : 0 < a → eb_V M E tgt ls st z h Q) (k2 : ¬ 0 < a → eb_V M E pc' ls st z h Q) : eb_V M E pc ls (.int (eb_I a) :: st) z h Q := by
  obtain ⟨hd, rfl⟩ := hd
  intro l D cs b0 bs p e R s m args below meth c Zf C hE hq H locs l' hP hL
  refine lv_if_gt (tgt := tgt) C.1 C.2.1 hd ht (fun q => k1 ?_ l D cs b0 bs p e R s m args below meth c Zf C hE hq H locs l' hP hL) (fun q => k2 ?_ l D cs b0 bs p e R s m args below meth c Zf C hE hq H locs l' hP hL)
  · first | exact (eb_I_lt (by omega : -2147483648 ≤ (0:Int) ∧ (0:Int) ≤ 2147483647) hr).mp q | (intro e; exact q ((eb_I_lt (by omega : -2147483648 ≤ (0:Int) ∧ (0:Int) ≤ 2147483647) hr).mpr e)) 
  · first | (intro e; exact q ((eb_I_lt (by omega : -2147483648 ≤ (0:Int) ∧ (0:Int) ≤ 2147483647) hr).mpr e)) | exact (eb_I_lt (by omega : -2147483648 ≤ (0:Int) ∧ (0:Int) ≤ 2147483647) hr).mp (Classical.not_not.mp q) | exact (eb_I_lt (by omega : -2147483648 ≤ (0:Int) ∧ (0:Int) ≤ 2147483647) hr).mp q
theorem V_icmp_le {a b off : Int} {tgt : Nat} (hd : eb_at M pc pc' (.if_icmp .le off) 3) (ht : (pc : Int) + off = (tgt : Int)) (hr : (-2147483648 ≤ a ∧ a ≤ 2147483647) ∧ (-2147483648 ≤ b ∧ b ≤ 2147483647)) (k1 : a ≤ b → eb_V M E tgt ls st z h Q) (k2 : ¬ a ≤ b → eb_V M E pc' ls st z h Q) : eb_V M E pc ls (.int (eb_I b) :: .int (eb_I a) :: st) z h Q := by
  obtain ⟨hd, rfl⟩ := hd
  intro l D cs b0 bs p e R s m args below meth c Zf C hE hq H locs l' hP hL
  refine lv_icmp_le (tgt := tgt) C.1 C.2.1 hd ht (fun q => k1 ?_ l D cs b0 bs p e R s m args below meth c Zf C hE hq H locs l' hP hL) (fun q => k2 ?_ l D cs b0 bs p e R s m args below meth c Zf C hE hq H locs l' hP hL)
  · first | exact (eb_I_le hr.1 hr.2).mp q | (intro e; exact q ((eb_I_le hr.1 hr.2).mpr e)) 
  · first | (intro e; exact q ((eb_I_le hr.1 hr.2).mpr e)) | exact (eb_I_le hr.1 hr.2).mp (Classical.not_not.mp q) | exact (eb_I_le hr.1 hr.2).mp q
theorem V_if_le {a  off : Int} {tgt : Nat} (hd : eb_at M pc pc' (.ifCond .le off) 3) (ht : (pc : Int) + off = (tgt : Int)) (hr : -2147483648 ≤ a ∧ a ≤ 2147483647) (k1 : a ≤ 0 → eb_V M E tgt ls st z h Q) (k2 : ¬ a ≤ 0 → eb_V M E pc' ls st z h Q) : eb_V M E pc ls (.int (eb_I a) :: st) z h Q := by
  obtain ⟨hd, rfl⟩ := hd
  intro l D cs b0 bs p e R s m args below meth c Zf C hE hq H locs l' hP hL
  refine lv_if_le (tgt := tgt) C.1 C.2.1 hd ht (fun q => k1 ?_ l D cs b0 bs p e R s m args below meth c Zf C hE hq H locs l' hP hL) (fun q => k2 ?_ l D cs b0 bs p e R s m args below meth c Zf C hE hq H locs l' hP hL)
  · first | exact (eb_I_le hr (by omega : -2147483648 ≤ (0:Int) ∧ (0:Int) ≤ 2147483647)).mp q | (intro e; exact q ((eb_I_le hr (by omega : -2147483648 ≤ (0:Int) ∧ (0:Int) ≤ 2147483647)).mpr e)) 
  · first | (intro e; exact q ((eb_I_le hr (by omega : -2147483648 ≤ (0:Int) ∧ (0:Int) ≤ 2147483647)).mpr e)) | exact (eb_I_le hr (by omega : -2147483648 ≤ (0:Int) ∧ (0:Int) ≤ 2147483647)).mp (Classical.not_not.mp q) | exact (eb_I_le hr (by omega : -2147483648 ≤ (0:Int) ∧ (0:Int) ≤ 2147483647)).mp q
theorem V_goto {off : Int} {tgt : Nat} (hd : eb_at M pc pc' (.goto off) 3) (ht : (pc : Int) + off = (tgt : Int)) (k : eb_V M E tgt ls st z h Q) : eb_V M E pc ls st z h Q := by
  obtain ⟨hd, rfl⟩ := hd
  refine eb_V.go (fun l D cs b0 bs p e R s m args below meth c Zf C hE H locs l' hP hL kk => ?_) k
  exact lv_goto (tgt := tgt) C.1 C.2.1 hd ht (kk H locs l' hP hL)
end EBR
