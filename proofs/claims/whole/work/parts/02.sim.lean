/-! The pure side: cells by their number, from a base on; a method's walk as a relation between pure states. -/
abbrev eb_H : Type := Nat → va_E
abbrev eb_Z : Type := Nat × Nat × Nat
abbrev eb_y (M : eb_M) : MethodName := M.1.1
abbrev eb_code (M : eb_M) : ByteArray := M.1.2.1
abbrev eb_nl (M : eb_M) : Nat := M.1.2.2.1
abbrev eb_ret (M : eb_M) : Option FieldType := M.1.2.2.2
abbrev eb_ci (M : eb_M) : Nat := M.2.1
abbrev eb_lv (M : eb_M) : Nat := M.2.2.1
abbrev eb_mc (M : eb_M) : Nat := M.2.2.2.1
abbrev eb_ms (M : eb_M) : Nat := M.2.2.2.2
def eb_v (b0 bs : Nat) (v : Value) : Value := match v with
  | .ref k => .ref (bs + k)
  | .retAddr _ => .ref b0
  | v => v
def eb_e (cs : Nat → ClassId) (b0 bs : Nat) (e : va_E) : va_E := match e with
  | .inl (t, n, .inl f) => .inl (cs t, n, .inl f)
  | .inl (t, n, .inr (.inl f)) => .inl (cs t, n, .inr (.inl f))
  | .inl (t, n, .inr (.inr (.inl f))) => .inl (cs t, n, .inr (.inr (.inl f)))
  | .inl (t, n, .inr (.inr (.inr (.inl f)))) => .inl (cs t, n, .inr (.inr (.inr (.inl f))))
  | .inl (t, n, .inr (.inr (.inr (.inr f)))) => .inl (cs t, n, .inr (.inr (.inr (.inr (fun i => (f i).map (fun k => bs + k))))))
  | .inr (c, fs) => .inr (c, fs.map (eb_v b0 bs))
def eb_w (cs : Nat → ClassId) (b0 bs n : Nat) (h : eb_H) : va_W := (List.range n).map (fun k => (bs + k, eb_e cs b0 bs (h k)))
def eb_up (h : eb_H) (k : Nat) (e : va_E) : eb_H := fun j => if j = k then e else h j
theorem eb_up_s {h : eb_H} {k : Nat} {e : va_E} : eb_up h k e k = e := if_pos rfl
theorem eb_up_n {h : eb_H} {k j : Nat} {e e' : va_E} (hn : j ≠ k) (he : h j = e') : eb_up h k e j = e' := (if_neg hn).trans he
theorem eb_w_at {cs : Nat → ClassId} {b0 bs n : Nat} {h : eb_H} {k : Nat} (hk : k < n) : (eb_w cs b0 bs n h)[k]? = some (bs + k, eb_e cs b0 bs (h k)) := by
  simp [eb_w, hk]
theorem eb_w_lt {cs : Nat → ClassId} {b0 bs n : Nat} {h : eb_H} {k : Nat} {q : Nat × va_E} (hk : (eb_w cs b0 bs n h)[k]? = some q) : k < n ∧ q = (bs + k, eb_e cs b0 bs (h k)) := by
  have hl : k < n := by
    have := (List.getElem?_eq_some_iff.mp hk).1
    simpa [eb_w] using this
  rw [eb_w_at hl] at hk
  exact ⟨hl, (Option.some.inj hk).symm⟩
theorem eb_w_set {cs : Nat → ClassId} {b0 bs n : Nat} {h : eb_H} {k : Nat} {e : va_E} (hk : k < n) : (eb_w cs b0 bs n h).set k (bs + k, eb_e cs b0 bs e) = eb_w cs b0 bs n (eb_up h k e) := by
  apply List.ext_getElem?
  intro j
  by_cases hj : j < n
  · rw [eb_w_at hj]
    by_cases e1 : j = k
    · subst e1
      rw [List.getElem?_set_self (by simp [eb_w, hj]), eb_up_s]
    · rw [List.getElem?_set_ne (fun q => e1 q.symm), eb_w_at hj]
      simp [eb_up, e1]
  · simp [eb_w, hj]
theorem eb_w_push {cs : Nat → ClassId} {b0 bs n : Nat} {h : eb_H} {e : va_E} : eb_w cs b0 bs n h ++ [(bs + n, eb_e cs b0 bs e)] = eb_w cs b0 bs (n + 1) (eb_up h n e) := by
  unfold eb_w
  rw [List.range_succ, List.map_append]
  congr 1
  · apply List.map_congr_left
    intro k hk
    have : k ≠ n := Nat.ne_of_lt (List.mem_range.mp hk)
    simp [eb_up, this]
  · simp [eb_up]
theorem eb_w_D {cs : Nat → ClassId} {b0 bs n : Nat} {h : eb_H} : va_D (fun q => bs ≤ q) (eb_w cs b0 bs n h) := by
  refine ⟨fun i j p q hi hj hpq => ?_, fun k q hk => ?_⟩
  · have h1 := (eb_w_lt hi).2
    have h2 := (eb_w_lt hj).2
    subst h1; subst h2
    simp only at hpq
    omega
  · have h1 := (eb_w_lt hk).2
    subst h1
    simp
def eb_ts : List Cond := lw_tbl.filter goodWord
def eb_ty (cs : Nat → ClassId) : List (ClassId × FieldType) := [(cs 0, .int), (cs 1, .long), (cs 2, .boolean), (cs 3, .object RX7), (cs 4, .object RX2)]
def eb_nw : List Cond := lw_tbl.filter (fun w => match w with | .methodLinkNest _ _ _ _ => true | _ => false)
/-- what the tables say, at any state of the run -/
def eb_K (D : va_G) (cs : Nat → ClassId) (U : State) : Prop := va_K D vwCl (eb_ty cs) U ∧ va_AO RX7 U ∧ va_AO RX2 U ∧ ∀ w ∈ eb_nw, va_Nw w U
theorem eb_nw_kind {w : Cond} (h : w ∈ eb_nw) : ∃ a i x hh, w = .methodLinkNest a i x hh := by
  have h1 := (List.mem_filter.mp h).2
  cases w <;> simp at h1
  exact ⟨_, _, _, _, rfl⟩
theorem eb_K.warm {D : va_G} {cs : Nat → ClassId} {s U : State} (hW : s.WarmedH U.vm) (h : eb_K D cs s) : eb_K D cs U := by
  obtain ⟨h1, h2, h3, h4⟩ := h
  refine ⟨va_K.moved hW.alike h1, va_AO.moved hW.alike h2, va_AO.moved hW.alike h3, fun w hw => ?_⟩
  obtain ⟨a, i, x, hh, rfl⟩ := eb_nw_kind hw
  exact va_Nw.warmM hW (h4 _ hw)
theorem eb_K.calling {D : va_G} {cs : Nat → ClassId} {U : State} {g : JFrame} {mk : MethodId} {a : Array Value} (h : eb_K D cs U) : eb_K D cs (U.calling g mk a) := by
  obtain ⟨h1, h2, h3, h4⟩ := h
  refine ⟨va_K.moved (u := U) (U := U.calling g mk a) (Vm.Alike.refl U.vm) h1, va_AO.moved (u := U) (U := U.calling g mk a) (Vm.Alike.refl U.vm) h2, va_AO.moved (u := U) (U := U.calling g mk a) (Vm.Alike.refl U.vm) h3, fun w hw => ?_⟩
  have := h4 w hw
  obtain ⟨a, i, x, hh, rfl⟩ := eb_nw_kind hw
  exact va_Nw.same rfl (u := U) rfl this
/-- where the machine stands: its code, its tables, its room -/
def eb_C (M : eb_M) (p : Program) (R : Room) (s : State) (m : MethodId) (args : Array Value) (meth : Method) (c : Code) : Prop :=
  p.tables.exec = Jvm.exec ∧ c.code = eb_code M ∧ c.maxLocals = eb_nl M ∧ s.vm.findClass (eb_y M).cls = some m.cls ∧ (∀ w ∈ eb_ts, w.before args s = true) ∧ (eb_lv M ≤ R.frames ∧ 36 * eb_lv M ≤ R.locals) ∧ (eb_mc M ≤ R.cells ∧ eb_ms M ≤ R.slots) ∧ ((eb_y M).name = "<init>" → meth.name = "<init>")
def eb_wf (n : Nat) (h : eb_H) : Prop := ∀ k : Nat, n ≤ k → h k = .inr (99, [])
def eb_P (D : va_G) (cs : Nat → ClassId) (b0 bs : Nat) (s : State) (z : eb_Z) (h : eb_H) (H : Heap) (locs : List Loc) : Prop :=
  va_P D vwCl (eb_w cs b0 bs z.1 h) H ∧ eb_K D cs s ∧ va_S (fun q => bs ≤ q) s.heap H locs ∧ (s.heap.size + z.2.1 ≤ bs + z.1 ∧ bs ≤ s.heap.size) ∧ eb_wf z.1 h
theorem eb_P.size {D : va_G} {cs : Nat → ClassId} {b0 bs : Nat} {s : State} {z : eb_Z} {h : eb_H} {H : Heap} {locs : List Loc} (hP : eb_P D cs b0 bs s z h H locs) (hu : H.size ≤ s.heap.size + z.2.1) : H.size = bs + z.1 := by
  obtain ⟨n, c, q⟩ := z
  have h1 := hP.2.2.2.1.1
  have h2 := hP.2.2.2.1.2
  have h3 := hP.2.2.1.1
  simp only at h1 hu ⊢
  cases n with
  | zero => omega
  | succ n =>
    have h4 := (hP.1 n _ (eb_w_at (Nat.lt_succ_self n))).lt
    simp only at h4
    omega
theorem eb_sized {p : Program} {l : Launch} {e : Env} {R : Room} {s : State} {m : MethodId} {args : Array Value} {below : List Frame} {meth : Method} {c : Code} {H : Heap} {locs : List Loc} {cells slots : Nat} {Q : State → Prop} {g : JFrame} (k : H.size ≤ s.heap.size + cells → W p l e R s m args below meth c H locs cells slots Q g) : W p l e R s m args below meth c H locs cells slots Q g :=
  fun T hT X => k (by have := X.same.2.2.1; rw [← hT]; exact this) T hT X
abbrev eb_no : Value := .double 0
def eb_L (b0 bs nL : Nat) (ls : List Value) (l' : Array Slot) : Prop := l'.size = nL ∧ lv_wf l' ∧ ls.length = nL ∧ ∀ (k : Nat) (v : Value), ls[k]? = some v → v ≠ eb_no → l'[k]? = some (.val (eb_v b0 bs v))
/-- from this state of the frame the machine comes to one with Q -/
def eb_V (M : eb_M) (E : Nat → Nat → State → Prop) (pc : Nat) (ls st : List Value) (z : eb_Z) (h : eb_H) (Q : Nat → List Value → List Value → eb_Z → eb_H → Prop) : Prop :=
  ∀ (l : Launch) (D : va_G) (cs : Nat → ClassId) (b0 bs : Nat) (p : Program) (e : Env) (R : Room) (s : State) (m : MethodId) (args : Array Value) (below : List Frame) (meth : Method) (c : Code) (Zf : State → Prop),
    eb_C M p R s m args meth c → E b0 bs s →
    (∀ (pc : Nat) (ls st : List Value) (z : eb_Z) (h : eb_H) (H : Heap) (locs : List Loc) (l' : Array Slot), Q pc ls st z h → eb_P D cs b0 bs s z h H locs → eb_L b0 bs (eb_nl M) ls l' → W p l e R s m args below meth c H locs z.2.1 z.2.2 Zf (F0 m pc l' (st.map (eb_v b0 bs)))) →
    ∀ (H : Heap) (locs : List Loc) (l' : Array Slot), eb_P D cs b0 bs s z h H locs → eb_L b0 bs (eb_nl M) ls l' → W p l e R s m args below meth c H locs z.2.1 z.2.2 Zf (F0 m pc l' (st.map (eb_v b0 bs)))
def eb_at (M : eb_M) (pc pc' : Nat) (i : Instr) (n : Nat) : Prop := decode (eb_code M) pc = .ok (i, n) ∧ pc + n = pc'
section EBV
variable {M : eb_M} {E : Nat → Nat → State → Prop} {pc pc' : Nat} {ls ls' st st' : List Value} {z z' : eb_Z} {h h' : eb_H} {Q Q' : Nat → List Value → List Value → eb_Z → eb_H → Prop}
theorem eb_V.go (hstep : ∀ (l : Launch) (D : va_G) (cs : Nat → ClassId) (b0 bs : Nat) (p : Program) (e : Env) (R : Room) (s : State) (m : MethodId) (args : Array Value) (below : List Frame) (meth : Method) (c : Code) (Zf : State → Prop), eb_C M p R s m args meth c → E b0 bs s →
      ∀ (H : Heap) (locs : List Loc) (l' : Array Slot), eb_P D cs b0 bs s z h H locs → eb_L b0 bs (eb_nl M) ls l' →
      (∀ (H : Heap) (locs : List Loc) (l' : Array Slot), eb_P D cs b0 bs s z' h' H locs → eb_L b0 bs (eb_nl M) ls' l' → W p l e R s m args below meth c H locs z'.2.1 z'.2.2 Zf (F0 m pc' l' (st'.map (eb_v b0 bs)))) →
      W p l e R s m args below meth c H locs z.2.1 z.2.2 Zf (F0 m pc l' (st.map (eb_v b0 bs)))) (k : eb_V M E pc' ls' st' z' h' Q) : eb_V M E pc ls st z h Q :=
  fun l D cs b0 bs p e R s m args below meth c Zf C hE hq H locs l' hP hL => hstep l D cs b0 bs p e R s m args below meth c Zf C hE H locs l' hP hL (fun H locs l' hP hL => k l D cs b0 bs p e R s m args below meth c Zf C hE hq H locs l' hP hL)
theorem eb_V.done (hq : Q pc ls st z h) : eb_V M E pc ls st z h Q :=
  fun _ _ _ _ _ _ _ _ _ _ _ _ _ _ _ _ _ k H locs l' hP hL => k pc ls st z h H locs l' hq hP hL
theorem eb_V.then (k : eb_V M E pc ls st z h Q) (kk : ∀ pc ls st z h, Q pc ls st z h → eb_V M E pc ls st z h Q') : eb_V M E pc ls st z h Q' :=
  fun l D cs b0 bs p e R s m args below meth c Zf C hE hq H locs l' hP hL => k l D cs b0 bs p e R s m args below meth c Zf C hE (fun pc ls st z h H locs l' hQ hP hL => kk pc ls st z h hQ l D cs b0 bs p e R s m args below meth c Zf C hE hq H locs l' hP hL) H locs l' hP hL
end EBV
/-- the locals that a call begins with -/
def eb_sl : List Value → List Value
  | [] => []
  | v :: t => if v.category = 2 then v :: eb_no :: eb_sl t else v :: eb_sl t
def eb_ls (M : eb_M) (as : List Value) : List Value := eb_sl as ++ List.replicate (eb_nl M - (eb_sl as).length) eb_no
def eb_rm (M : eb_M) : Room := { frames := eb_lv M, cells := eb_mc M, slots := eb_ms M, locals := 36 * eb_lv M }
def eb_ws (M : eb_M) : List Cond := .code (eb_y M) (eb_code M) (eb_nl M) (eb_ret M) :: eb_ts
/-- a method's contract -/
def eb_T (M : eb_M) (as : List Value) (n : Nat) (h : eb_H) (Q : Option Value → Nat → eb_H → Prop) : Prop :=
  ∀ (l : Launch) (D : va_G) (cs : Nat → ClassId) (b0 bs : Nat), Met l (eb_y M) (eb_ws M) (eb_rm M) (va_Pc (as.map (eb_v b0 bs)) (fun U => U.heap.size = bs + n ∧ va_P D vwCl (eb_w cs b0 bs n h) U.heap ∧ eb_K D cs U ∧ eb_wf n h))
    (fun _ st oc t => (∃ (r : Option Value) (n' : Nat) (h' : eb_H), oc = .returned (r.map (eb_v b0 bs)) ∧ Q r n' h' ∧ t.heap.size = bs + n' ∧ va_P D vwCl (eb_w cs b0 bs n' h') t.heap ∧ eb_wf n' h') ∧ va_F (fun q => bs ≤ q) st t) (eb_mc M) (eb_ms M) (fun q => bs ≤ q)
def eb_end (M : eb_M) (pc : Nat) (st : List Value) (r : Option Value) : Prop :=
  (∃ x ty, decode (eb_code M) pc = .ok (.ireturn, 1) ∧ st = [.int x] ∧ r = some (.int x) ∧ eb_ret M = some ty ∧ narrow ty (.int x) = .int x) ∨
  (∃ x, decode (eb_code M) pc = .ok (.lreturn, 1) ∧ st = [.long x] ∧ r = some (.long x) ∧ eb_ret M = some .long) ∨
  (decode (eb_code M) pc = .ok (.return_, 1) ∧ st = [] ∧ r = none ∧ eb_ret M = none) ∨
  (∃ k rt, decode (eb_code M) pc = .ok (.areturn, 1) ∧ st = [.ref k] ∧ r = some (.ref k) ∧ eb_ret M = some rt ∧ ((∃ n, rt = .object n) ∨ ∃ t, rt = .array t))
def eb_R (M : eb_M) (Q : Option Value → Nat → eb_H → Prop) : Nat → List Value → List Value → eb_Z → eb_H → Prop := fun pc _ st z h => (z.2.1 ≤ eb_mc M ∧ z.2.2 ≤ eb_ms M) ∧ ∃ r, Q r z.1 h ∧ eb_end M pc st r
theorem eb_v_cat (b0 bs : Nat) (v : Value) : (eb_v b0 bs v).category = v.category := by cases v <;> rfl
theorem eb_entry_L (b0 bs : Nat) (as : List Value) (n : Nat) (hn : (eb_sl as).length ≤ n) : eb_L b0 bs n (eb_sl as ++ List.replicate (n - (eb_sl as).length) eb_no) ((lg_sl (as.map (eb_v b0 bs)) ++ List.replicate (n - (lg_sl (as.map (eb_v b0 bs))).length) Slot.unset).toArray) := by
  have hlen : (lg_sl (as.map (eb_v b0 bs))).length = (eb_sl as).length := by
    clear hn
    induction as with
    | nil => rfl
    | cons v t ih =>
      have ih' : (lg_sl (List.map (eb_v b0 bs) t)).length = (eb_sl t).length := ih
      simp only [lg_sl, List.map_cons, List.flatMap_cons, eb_sl, eb_v_cat, List.length_append] at ih' ⊢
      by_cases hc : v.category = 2
      · simp [hc, ih']; omega
      · simp [hc, ih']; omega
  have h1 := lv_entry (as.map (eb_v b0 bs)) (n := n) (by rw [hlen]; exact hn)
  refine ⟨h1.1, h1.2.1, by simp; omega, fun k v hk hv => ?_⟩
  have hkl : k < (eb_sl as).length := by
    rcases Nat.lt_or_ge k (eb_sl as).length with q | q
    · exact q
    · rw [List.getElem?_append_right q] at hk
      have := List.mem_of_getElem? hk
      rw [List.mem_replicate] at this
      exact absurd this.2 hv
  rw [List.getElem?_append_left hkl] at hk
  rw [List.getElem?_toArray, List.getElem?_append_left (by rw [hlen]; exact hkl)]
  clear h1 hlen hkl hn
  induction as generalizing k with
  | nil => simp [eb_sl] at hk
  | cons a t ih =>
    simp only [lg_sl, List.map_cons, List.flatMap_cons, eb_sl, eb_v_cat] at hk ⊢
    by_cases hc : a.category = 2
    · rw [if_pos hc] at hk
      rw [if_pos hc]
      match k, hk with
      | 0, hk => simp at hk; subst hk; rfl
      | 1, hk => simp at hk; exact absurd hk.symm hv
      | k + 2, hk =>
        simp only [List.getElem?_cons_succ] at hk
        exact ih k hk
    · rw [if_neg hc] at hk
      rw [if_neg hc]
      match k, hk with
      | 0, hk => simp at hk; subst hk; rfl
      | k + 1, hk =>
        simp only [List.getElem?_cons_succ] at hk
        exact ih k hk
theorem eb_T.of {M : eb_M} {as : List Value} {n : Nat} {h : eb_H} {Q : Option Value → Nat → eb_H → Prop} (hy : plainName (eb_y M).cls = true) (hn : (eb_sl as).length ≤ eb_nl M)
    (k : eb_V M (fun _ _ _ => True) 0 (eb_ls M as) [] (n, 0, 0) h (eb_R M Q)) : eb_T M as n h Q := by
  intro l D cs b0 bs
  refine Met.ofW (cc := eb_code M) (maxL := eb_nl M) (ret := eb_ret M) hy rfl ?_
  intro p e s m args below meth c s₁ B hml hv
  obtain ⟨rfl, hsz, hP, hK, hwf⟩ := hv
  have hx := B.exec
  have hb := B.bytes
  have hr := B.returns
  have hts := atoms_spec (ws := eb_ws M) B.pre
  have hown : s.vm.findClass (eb_y M).cls = some m.cls := findClass_of_methodNamed B.named
  have hlocks := B.notSynchronized
  have hin : meth.name = (eb_y M).name := (name_of_methodNamed B.named B.method).1
  rw [lg_entry_eq]
  refine k l D cs b0 bs p e _ s m _ below meth c _ ⟨hx, hb, hml, hown, fun w hw => hts w (List.mem_cons_of_mem _ hw), ⟨Nat.le_refl _, Nat.le_refl _⟩, ⟨Nat.le_refl _, Nat.le_refl _⟩, fun q => hin.trans q⟩ trivial ?_ s.heap [] _ ⟨hP, hK, va_S.rf, ⟨by simp only; omega, by omega⟩, hwf⟩ (eb_entry_L b0 bs as (eb_nl M) hn)
  intro pc ls st z h' H locs l' hQ hP' hL
  obtain ⟨⟨hc1, hc2⟩, r, hq, hend⟩ := hQ
  refine eb_sized (fun hsz1 => ?_)
  have hz1 := hP'.size hsz1
  obtain ⟨hP1, hK1, hS1, hb1, hw1⟩ := hP'
  refine W.widen (k := eb_mc M) (n := eb_ms M) hc1 hc2 ?_
  rcases hend with ⟨x, ty, hd, rfl, rfl, hrt, hnr⟩ | ⟨x, hd, rfl, rfl, hrt⟩ | ⟨hd, rfl, rfl, hrt⟩ | ⟨k, rt, hd, rfl, rfl, hrt, hrk⟩
  · exact W.zret (v := x) hx hb (hr.trans hrt) hnr (fun t ht hW => ⟨⟨some (.int x), z.1, h', rfl, hq, by rw [ht]; exact hz1, by rw [ht]; exact hP1, hw1⟩, hS1.F ht⟩) hS1.2.2 hd
  · exact W.lret (v := x) hx hb (hr.trans hrt) (fun t ht hW => ⟨⟨some (.long x), z.1, h', rfl, hq, by rw [ht]; exact hz1, by rw [ht]; exact hP1, hw1⟩, hS1.F ht⟩) hS1.2.2 hd
  · exact W.vret hx hb (hr.trans hrt) (fun t ht hW => ⟨⟨none, z.1, h', rfl, hq, by rw [ht]; exact hz1, by rw [ht]; exact hP1, hw1⟩, hS1.F ht⟩) hS1.2.2 hd
  · exact W.aret (v := .ref (bs + k)) hx hb (hr.trans hrt) hrk (Or.inr ⟨_, rfl⟩) (fun t ht hW => ⟨⟨some (.ref k), z.1, h', rfl, hq, by rw [ht]; exact hz1, by rw [ht]; exact hP1, hw1⟩, hS1.F ht⟩) hS1.2.2 hd
theorem eb_T.mono {M : eb_M} {as : List Value} {n : Nat} {h : eb_H} {Q Q' : Option Value → Nat → eb_H → Prop} (k : eb_T M as n h Q) (hq : ∀ r n h, Q r n h → Q' r n h) : eb_T M as n h Q' := by
  intro l D cs b0 bs
  exact MetFree.mono (k l D cs b0 bs) (fun _ _ hh => hh) (fun _ _ _ _ _ hh => hh) (fun a st o t hp hh => ⟨⟨by obtain ⟨⟨⟨r, n', h', e1, e2, e3⟩, e4⟩, -⟩ := hh; exact ⟨r, n', h', e1, hq _ _ _ e2, e3⟩, hh.1.2⟩, hh.2⟩)
