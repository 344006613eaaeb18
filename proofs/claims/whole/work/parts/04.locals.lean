def eb_ok (ls : List Value) (i : Nat) : Bool := match i with
  | 0 => true
  | j + 1 => match ls[j]? with
    | some (.long _) => false
    | some (.double b) => b == 0
    | _ => true
theorem eb_s0 {α : Type} {a v : α} {l : List α} : (a :: l).set 0 v = v :: l := rfl
theorem eb_sS {α : Type} {a v : α} {l l' : List α} {k : Nat} (h : l.set k v = l') : (a :: l).set (k + 1) v = a :: l' := by rw [← h]; rfl
def eb_lv0 (b0 bs nL : Nat) (ls : List Value) : List (Nat × Value) := (List.range nL).filterMap (fun k => match ls[k]? with
  | some v => if v = eb_no then none else some (k, eb_v b0 bs v)
  | none => none)
theorem eb_lv0_has {b0 bs nL : Nat} {ls : List Value} {l' : Array Slot} (hL : eb_L b0 bs nL ls l') : lv_has l' nL (eb_lv0 b0 bs nL ls) := by
  refine ⟨hL.1, hL.2.1, fun q hq => ?_⟩
  obtain ⟨k, hk, hf⟩ := List.mem_filterMap.mp hq
  cases hv : ls[k]? with
  | none => simp [hv] at hf
  | some v =>
    simp only [hv] at hf
    by_cases e : v = eb_no
    · simp [e] at hf
    · rw [if_neg e] at hf
      cases hf
      exact hL.2.2.2 k v hv e
theorem eb_lv0_in {b0 bs nL : Nat} {ls : List Value} {k : Nat} {v : Value} (hk : k < nL) (hv : ls[k]? = some v) (hn : v ≠ eb_no) : (k, eb_v b0 bs v) ∈ eb_lv0 b0 bs nL ls :=
  List.mem_filterMap.mpr ⟨k, List.mem_range.mpr hk, by simp only [hv]; rw [if_neg hn]⟩
theorem eb_okn {ls : List Value} {i k : Nat} {v : Value} (hok : eb_ok ls i = true) (hk : k + 1 = i) (hv : ls[k]? = some v) (hn : v ≠ eb_no) : ¬ v.category = 2 := by
  subst hk
  intro hc
  cases v <;> simp [Value.category] at hc
  · simp [eb_ok, hv] at hok
  · simp only [eb_ok, hv, beq_iff_eq] at hok
    exact hn (by rw [hok])
theorem eb_L1 {b0 bs nL : Nat} {ls : List Value} {l'' : Array Slot} {i : Nat} {v : Value} (hlen : ls.length = nL) (hi : i < nL) (hok : eb_ok ls i = true)
    (h : lv_has l'' nL ((i, eb_v b0 bs v) :: (eb_lv0 b0 bs nL ls).filter (fun q => !(q.1 == i) && !(q.1 + 1 == i && q.2.category == 2)))) : eb_L b0 bs nL (ls.set i v) l'' := by
  refine ⟨h.1, h.2.1, by simp [hlen], fun k w hk hw => ?_⟩
  by_cases e : k = i
  · subst e
    rw [List.getElem?_set_self (by omega)] at hk
    cases hk
    exact h.2.2 _ List.mem_cons_self
  · rw [List.getElem?_set_ne (fun q => e q.symm)] at hk
    have hkl : k < nL := by rw [← hlen]; exact (List.getElem?_eq_some_iff.mp hk).1
    refine h.2.2 (k, eb_v b0 bs w) (List.mem_cons_of_mem _ (List.mem_filter.mpr ⟨eb_lv0_in hkl hk hw, ?_⟩))
    simp only [eb_v_cat, Bool.and_eq_true, Bool.not_eq_true', beq_eq_false_iff_ne, ne_eq, Bool.and_eq_false_iff]
    refine ⟨e, ?_⟩
    by_cases e2 : k + 1 = i
    · exact Or.inr (eb_okn hok e2 hk hw)
    · exact Or.inl e2
theorem eb_L2 {b0 bs nL : Nat} {ls : List Value} {l'' : Array Slot} {i : Nat} {v : Value} (hlen : ls.length = nL) (hi : i + 1 < nL) (hok : eb_ok ls i = true)
    (h : lv_has l'' nL ((i, eb_v b0 bs v) :: (eb_lv0 b0 bs nL ls).filter (fun q => !(q.1 == i) && (!(q.1 == i + 1) && !(q.1 + 1 == i && q.2.category == 2))))) : eb_L b0 bs nL ((ls.set i v).set (i + 1) eb_no) l'' := by
  refine ⟨h.1, h.2.1, by simp [hlen], fun k w hk hw => ?_⟩
  by_cases e1 : k = i + 1
  · subst e1
    rw [List.getElem?_set_self (by simp; omega)] at hk
    cases hk
    exact absurd rfl hw
  · rw [List.getElem?_set_ne (fun q => e1 q.symm)] at hk
    by_cases e : k = i
    · subst e
      rw [List.getElem?_set_self (by omega)] at hk
      cases hk
      exact h.2.2 _ List.mem_cons_self
    · rw [List.getElem?_set_ne (fun q => e q.symm)] at hk
      have hkl : k < nL := by rw [← hlen]; exact (List.getElem?_eq_some_iff.mp hk).1
      refine h.2.2 (k, eb_v b0 bs w) (List.mem_cons_of_mem _ (List.mem_filter.mpr ⟨eb_lv0_in hkl hk hw, ?_⟩))
      simp only [eb_v_cat, Bool.and_eq_true, Bool.not_eq_true', beq_eq_false_iff_ne, ne_eq, Bool.and_eq_false_iff]
      refine ⟨e, e1, ?_⟩
      by_cases e2 : k + 1 = i
      · exact Or.inr (eb_okn hok e2 hk hw)
      · exact Or.inl e2
section EBLo
variable {M : eb_M} {E : Nat → Nat → State → Prop} {pc pc' : Nat} {ls ls' st : List Value} {z : eb_Z} {h : eb_H} {Q : Nat → List Value → List Value → eb_Z → eb_H → Prop}
theorem V_iload_n {j : Fin 4} {i : Nat} {x : Int32} (hd : eb_at M pc pc' (.iload_n j) 1) (hi : (j : Nat) = i) (hl : ls[i]? = some (.int x)) (k : eb_V M E pc' ls (.int x :: st) z h Q) : eb_V M E pc ls st z h Q := by
  obtain ⟨hd, rfl⟩ := hd
  refine eb_V.go (fun l D cs b0 bs p e R s m args below meth c Zf C hE H locs l' hP hL kk => ?_) k
  exact lv_iload_n C.1 C.2.1 hd hi (hL.2.2.2 i _ hl (by intro q; cases q)) (kk H locs l' hP hL)
theorem V_iload {i : Nat} {x : Int32} (hd : eb_at M pc pc' (.iload i) 2) (hl : ls[i]? = some (.int x)) (k : eb_V M E pc' ls (.int x :: st) z h Q) : eb_V M E pc ls st z h Q := by
  obtain ⟨hd, rfl⟩ := hd
  refine eb_V.go (fun l D cs b0 bs p e R s m args below meth c Zf C hE H locs l' hP hL kk => ?_) k
  exact lv_iload C.1 C.2.1 hd (hL.2.2.2 i _ hl (by intro q; cases q)) (kk H locs l' hP hL)
theorem V_istore_n {j : Fin 4} {i : Nat} {x : Int32} (hd : eb_at M pc pc' (.istore_n j) 1) (hi : (j : Nat) = i) (hn : i < ls.length) (hok : eb_ok ls i = true) (hs : ls.set i (.int x) = ls') (k : eb_V M E pc' ls' st z h Q) : eb_V M E pc ls (.int x :: st) z h Q := by
  obtain ⟨hd, rfl⟩ := hd
  refine eb_V.go (fun l D cs b0 bs p e R s m args below meth c Zf C hE H locs l' hP hL kk => ?_) k
  exact lv_istore_n C.1 C.2.1 hd hi (eb_lv0_has hL) (by rw [← hL.2.2.1]; exact hn) rfl (fun l2 hl2 => kk H locs l2 hP (by rw [← hs]; exact eb_L1 (v := .int x) hL.2.2.1 (by rw [← hL.2.2.1]; exact hn) hok hl2))
theorem V_istore {i : Nat} {x : Int32} (hd : eb_at M pc pc' (.istore i) 2) (hn : i < ls.length) (hok : eb_ok ls i = true) (hs : ls.set i (.int x) = ls') (k : eb_V M E pc' ls' st z h Q) : eb_V M E pc ls (.int x :: st) z h Q := by
  obtain ⟨hd, rfl⟩ := hd
  refine eb_V.go (fun l D cs b0 bs p e R s m args below meth c Zf C hE H locs l' hP hL kk => ?_) k
  exact lv_istore C.1 C.2.1 hd (eb_lv0_has hL) (by rw [← hL.2.2.1]; exact hn) rfl (fun l2 hl2 => kk H locs l2 hP (by rw [← hs]; exact eb_L1 (v := .int x) hL.2.2.1 (by rw [← hL.2.2.1]; exact hn) hok hl2))
theorem V_lload_n {j : Fin 4} {i : Nat} {x : Int64} (hd : eb_at M pc pc' (.lload_n j) 1) (hi : (j : Nat) = i) (hl : ls[i]? = some (.long x)) (k : eb_V M E pc' ls (.long x :: st) z h Q) : eb_V M E pc ls st z h Q := by
  obtain ⟨hd, rfl⟩ := hd
  refine eb_V.go (fun l D cs b0 bs p e R s m args below meth c Zf C hE H locs l' hP hL kk => ?_) k
  exact lv_lload_n C.1 C.2.1 hd hi (hL.2.2.2 i _ hl (by intro q; cases q)) (kk H locs l' hP hL)
theorem V_lload {i : Nat} {x : Int64} (hd : eb_at M pc pc' (.lload i) 2) (hl : ls[i]? = some (.long x)) (k : eb_V M E pc' ls (.long x :: st) z h Q) : eb_V M E pc ls st z h Q := by
  obtain ⟨hd, rfl⟩ := hd
  refine eb_V.go (fun l D cs b0 bs p e R s m args below meth c Zf C hE H locs l' hP hL kk => ?_) k
  exact lv_lload C.1 C.2.1 hd (hL.2.2.2 i _ hl (by intro q; cases q)) (kk H locs l' hP hL)
theorem V_lstore_n {j : Fin 4} {i : Nat} {x : Int64} (hd : eb_at M pc pc' (.lstore_n j) 1) (hi : (j : Nat) = i) (hn : i + 1 < ls.length) (hok : eb_ok ls i = true) {ls1 : List Value} (hs : ls.set i (.long x) = ls1) (hs2 : ls1.set (i + 1) eb_no = ls') (k : eb_V M E pc' ls' st z h Q) : eb_V M E pc ls (.long x :: st) z h Q := by
  obtain ⟨hd, rfl⟩ := hd
  refine eb_V.go (fun l D cs b0 bs p e R s m args below meth c Zf C hE H locs l' hP hL kk => ?_) k
  exact lv_lstore_n C.1 C.2.1 hd hi (eb_lv0_has hL) (by rw [← hL.2.2.1]; exact hn) rfl (fun l2 hl2 => kk H locs l2 hP (by rw [← hs2, ← hs]; exact eb_L2 (v := .long x) hL.2.2.1 (by rw [← hL.2.2.1]; exact hn) hok hl2))
theorem V_aload_n {j : Fin 4} {i : Nat} {x : Nat} (hd : eb_at M pc pc' (.aload_n j) 1) (hi : (j : Nat) = i) (hl : ls[i]? = some (.ref x)) (k : eb_V M E pc' ls (.ref x :: st) z h Q) : eb_V M E pc ls st z h Q := by
  obtain ⟨hd, rfl⟩ := hd
  refine eb_V.go (fun l D cs b0 bs p e R s m args below meth c Zf C hE H locs l' hP hL kk => ?_) k
  exact lv_aload_n C.1 C.2.1 hd hi (hL.2.2.2 i _ hl (by intro q; cases q)) (kk H locs l' hP hL)
theorem V_aload {i : Nat} {x : Nat} (hd : eb_at M pc pc' (.aload i) 2) (hl : ls[i]? = some (.ref x)) (k : eb_V M E pc' ls (.ref x :: st) z h Q) : eb_V M E pc ls st z h Q := by
  obtain ⟨hd, rfl⟩ := hd
  refine eb_V.go (fun l D cs b0 bs p e R s m args below meth c Zf C hE H locs l' hP hL kk => ?_) k
  exact lv_aload C.1 C.2.1 hd (hL.2.2.2 i _ hl (by intro q; cases q)) (kk H locs l' hP hL)
theorem V_astore_n {j : Fin 4} {i : Nat} {x : Nat} (hd : eb_at M pc pc' (.astore_n j) 1) (hi : (j : Nat) = i) (hn : i < ls.length) (hok : eb_ok ls i = true) (hs : ls.set i (.ref x) = ls') (k : eb_V M E pc' ls' st z h Q) : eb_V M E pc ls (.ref x :: st) z h Q := by
  obtain ⟨hd, rfl⟩ := hd
  refine eb_V.go (fun l D cs b0 bs p e R s m args below meth c Zf C hE H locs l' hP hL kk => ?_) k
  exact lv_astore_n C.1 C.2.1 hd hi (eb_lv0_has hL) (by rw [← hL.2.2.1]; exact hn) rfl (fun l2 hl2 => kk H locs l2 hP (by rw [← hs]; exact eb_L1 (v := .ref x) hL.2.2.1 (by rw [← hL.2.2.1]; exact hn) hok hl2))
theorem V_astore {i : Nat} {x : Nat} (hd : eb_at M pc pc' (.astore i) 2) (hn : i < ls.length) (hok : eb_ok ls i = true) (hs : ls.set i (.ref x) = ls') (k : eb_V M E pc' ls' st z h Q) : eb_V M E pc ls (.ref x :: st) z h Q := by
  obtain ⟨hd, rfl⟩ := hd
  refine eb_V.go (fun l D cs b0 bs p e R s m args below meth c Zf C hE H locs l' hP hL kk => ?_) k
  exact lv_astore C.1 C.2.1 hd (eb_lv0_has hL) (by rw [← hL.2.2.1]; exact hn) rfl (fun l2 hl2 => kk H locs l2 hP (by rw [← hs]; exact eb_L1 (v := .ref x) hL.2.2.1 (by rw [← hL.2.2.1]; exact hn) hok hl2))
theorem V_iinc {i : Nat} {a b : Int} (hd : eb_at M pc pc' (.iinc i b) 3) (hl : ls[i]? = some (.int (eb_I a))) (hok : eb_ok ls i = true) (hs : ls.set i (.int (eb_I (a + b))) = ls') (k : eb_V M E pc' ls' st z h Q) : eb_V M E pc ls st z h Q := by
  obtain ⟨hd, rfl⟩ := hd
  refine eb_V.go (fun l D cs b0 bs p e R s m args below meth c Zf C hE H locs l' hP hL kk => ?_) k
  have hn : i < ls.length := (List.getElem?_eq_some_iff.mp hl).1
  have hn2 : i < eb_nl M := by rw [← hL.2.2.1]; exact hn
  obtain ⟨j, hj⟩ := List.getElem?_of_mem (eb_lv0_in (b0 := b0) (bs := bs) hn2 hl (by intro q; cases q))
  exact lv_iinc (x := eb_I a) (v := eb_I (a + b)) C.1 C.2.1 hd (eb_lv0_has hL) hj (eb_I_add a b) hn2 rfl (fun l2 hl2 => kk H locs l2 hP (by rw [← hs]; exact eb_L1 (v := .int (eb_I (a + b))) hL.2.2.1 hn2 hok hl2))
end EBLo
