theorem eb_q {A : Nat → Prop} {cs : Nat → ClassId} {b0 bs n q : Nat} {h : eb_H} {e : va_E} {D : va_G} {H1 : Heap} {hi : Nat} (hA : ∀ x, A x → bs ≤ x) (hD : va_D A (eb_w cs b0 bs n h ++ [(q, e)])) (hP : va_P D vwCl (eb_w cs b0 bs n h ++ [(q, e)]) H1) (hu : H1.size ≤ hi) (hh : hi ≤ bs + n + 1) : q = bs + n := by
  have hlen : (eb_w cs b0 bs n h).length = n := by simp [eb_w]
  have hlast : (eb_w cs b0 bs n h ++ [(q, e)])[n]? = some (q, e) := by
    rw [List.getElem?_append_right (by omega), hlen, Nat.sub_self]; rfl
  have h1 : q < H1.size := (hP n _ hlast).lt
  have h2 : bs ≤ q := hA _ (hD.2 n _ hlast)
  rcases Nat.lt_or_ge q (bs + n) with hq | hq
  · have hk : q - bs < n := by omega
    have h3 : (eb_w cs b0 bs n h ++ [(q, e)])[q - bs]? = some (bs + (q - bs), eb_e cs b0 bs (h (q - bs))) := by
      rw [List.getElem?_append_left (by omega), eb_w_at hk]
    have := hD.1 (q - bs) n _ _ h3 hlast (by simp only; omega)
    omega
  · omega
theorem eb_P.push {D : va_G} {cs : Nat → ClassId} {b0 bs : Nat} {s : State} {n c sl N : Nat} {h : eb_H} {H H1 : Heap} {locs : List Loc} {e : va_E} (hP : eb_P D cs b0 bs s (n, c, sl) h H locs)
    (h1 : va_P D vwCl (eb_w cs b0 bs n h ++ [(bs + n, eb_e cs b0 bs e)]) H1) (h2 : va_S (fun q => bs ≤ q) s.heap H1 locs) : eb_P D cs b0 bs s (n + 1, c + 1, sl + N) (eb_up h n e) H1 locs := by
  rw [eb_w_push] at h1
  have hz := hP.2.2.2.1.1
  simp only at hz
  refine ⟨h1, hP.2.1, h2, ⟨by simp only; omega, hP.2.2.2.1.2⟩, fun k hk => ?_⟩
  have hk' : n + 1 ≤ k := hk
  rw [eb_up, if_neg (by omega)]
  exact hP.2.2.2.2 k (show n ≤ k by omega)
def eb_nw_at (M : eb_M) (pc pc' ci : Nat) (fs : List Value) (N : Nat) : Prop := ∃ (idx : Nat) (q : vw_C), decode (eb_code M) pc = .ok (.new idx, 3) ∧ pc + 3 = pc' ∧ vwCl[ci]? = some q ∧ q.2.2 = N ∧ Cond.classLink (eb_y M).cls idx q.1 ∈ eb_ts ∧ Cond.instantiable q.1 q.2.2 ∈ eb_ts ∧ Cond.initialized q.1 ∈ eb_ts ∧ (∀ j, j < q.2.2 → (parseFieldDescriptor (q.2.1 j).2.2.1).map defaultValue = some (vp_V fs j))
section EBN
variable {M : eb_M} {E : Nat → Nat → State → Prop} {pc pc' : Nat} {ls st stk : List Value} {n c s : Nat} {h : eb_H} {Q : Nat → List Value → List Value → eb_Z → eb_H → Prop}
theorem V_new {ci N : Nat} {fs : List Value} (hd : eb_nw_at M pc pc' ci fs N) (hfs : ∀ b0 bs, fs.map (eb_v b0 bs) = fs) (hc : c + 1 ≤ eb_mc M ∧ s + N ≤ eb_ms M) (k : eb_V M E pc' ls (.ref n :: st) (n + 1, c + 1, s + N) (eb_up h n (.inr (ci, fs))) Q) : eb_V M E pc ls st (n, c, s) h Q := by
  obtain ⟨idx, q, hd, rfl, hq, rfl, hcl, hins, hini, hdf⟩ := hd
  obtain ⟨hc1, ty0, hc2, hc3⟩ := eb_cls hq
  intro l D cs b0 bs p e R s' m args below meth c' Zf C hE hqq H locs l' hP hL
  have hts := C.2.2.2.2.1
  have hC := C.2.2.2.2.2.2.1
  refine va_new (C := q.1) (T := q.2.1) (N := q.2.2) (fs := fs) C.1 C.2.1 hts (eb_cls_in hq) ty0 hc2 C.2.2.2.1 (hts _ hcl) (hts _ hins) (hts _ hini) hP.2.1.1 hP.1 eb_w_D hP.2.2.1 (fun x hx => Nat.le_trans hP.2.2.2.1.2 hx) hq (fun j hj => ?_) (by simp only; omega) (by simp only; omega) hd (fun a H1 h1 h2 h3 => ?_)
  · have e1 := hdf j hj
    rw [hc2 j hj] at e1
    exact Option.some.inj e1
  · refine eb_sized (fun hsz => ?_)
    have hz := hP.2.2.2.1.1
    simp only at hz hsz
    have ha : a = bs + n := eb_q (fun x hx => hx) h2 h1 hsz (by omega)
    subst ha
    have e1 : (Sum.inr (ci, fs) : va_E) = eb_e cs b0 bs (.inr (ci, fs)) := by simp [eb_e, hfs b0 bs]
    rw [e1] at h1
    exact k l D cs b0 bs p e R s' m args below meth c' Zf C hE hqq H1 locs l' (hP.push h1 h3) hL
theorem V_newi {i : Int} {N : Nat} (hd : eb_at M pc pc' (.newarray .int) 2) (hw : Cond.arrayClass .int ∈ eb_ts) (hi : i = (N : Int)) (hN : N ≤ 100000) (hc : c + 1 ≤ eb_mc M ∧ s + N ≤ eb_ms M) (k : eb_V M E pc' ls (.ref n :: st) (n + 1, c + 1, s + N) (eb_up h n (eb_ia N (fun _ => 0))) Q) : eb_V M E pc ls (.int (eb_I i) :: st) (n, c, s) h Q := by
  obtain ⟨hd, rfl⟩ := hd
  subst hi
  intro l D cs b0 bs p e R s' m args below meth c' Zf C hE hqq H locs l' hP hL
  have hts := C.2.2.2.2.1
  have hC := C.2.2.2.2.2.2.1
  refine va_newa (atype := .int) (ty := .int) (a0 := (N, .inl (fun _ => 0))) C.1 C.2.1 (hts _ hw) rfl hP.2.1.1 hP.1 eb_w_D hP.2.2.1 (fun x hx => Nat.le_trans hP.2.2.2.1.2 hx) (fun cA => rfl) (by rw [show (0 : Int32) = eb_I 0 from rfl, eb_I_lt (by omega) (by omega)]; omega) (N' := N) (by rw [eb_I_nat (by omega)]; simp) (by show N * 4 ≤ _; omega) (by simp only; omega) (by simp only; omega) hd (fun a cA H1 hK1 h1 h2 h3 => ?_)
  refine eb_sized (fun hsz => ?_)
  have hz := hP.2.2.2.1.1
  simp only at hz hsz
  have hcA : cA = cs 0 := by
    have e1 : va_RA s' cA .int := (hK1.2 5 (cA, .int) rfl).2
    have e2 : va_RA s' (cs 0) .int := (hK1.2 0 (cs 0, .int) rfl).2
    exact Option.some.inj (e1.symm.trans e2)
  subst hcA
  have ha : a = bs + n := eb_q (fun x hx => hx) h2 h1 hsz (by omega)
  subst ha
  exact k l D cs b0 bs p e R s' m args below meth c' Zf C hE hqq H1 locs l' (hP.push (e := eb_ia N (fun _ => 0)) h1 h3) hL
theorem V_newl {i : Int} {N : Nat} (hd : eb_at M pc pc' (.newarray .long) 2) (hw : Cond.arrayClass .long ∈ eb_ts) (hi : i = (N : Int)) (hN : N ≤ 100000) (hc : c + 1 ≤ eb_mc M ∧ s + N ≤ eb_ms M) (k : eb_V M E pc' ls (.ref n :: st) (n + 1, c + 1, s + N) (eb_up h n (eb_la N (fun _ => 0))) Q) : eb_V M E pc ls (.int (eb_I i) :: st) (n, c, s) h Q := by
  obtain ⟨hd, rfl⟩ := hd
  subst hi
  intro l D cs b0 bs p e R s' m args below meth c' Zf C hE hqq H locs l' hP hL
  have hts := C.2.2.2.2.1
  have hC := C.2.2.2.2.2.2.1
  refine va_newa (atype := .long) (ty := .long) (a0 := (N, .inr (.inl (fun _ => 0)))) C.1 C.2.1 (hts _ hw) rfl hP.2.1.1 hP.1 eb_w_D hP.2.2.1 (fun x hx => Nat.le_trans hP.2.2.2.1.2 hx) (fun cA => rfl) (by rw [show (0 : Int32) = eb_I 0 from rfl, eb_I_lt (by omega) (by omega)]; omega) (N' := N) (by rw [eb_I_nat (by omega)]; simp) (by show N * 8 ≤ _; omega) (by simp only; omega) (by simp only; omega) hd (fun a cA H1 hK1 h1 h2 h3 => ?_)
  refine eb_sized (fun hsz => ?_)
  have hz := hP.2.2.2.1.1
  simp only at hz hsz
  have hcA : cA = cs 1 := by
    have e1 : va_RA s' cA .long := (hK1.2 5 (cA, .long) rfl).2
    have e2 : va_RA s' (cs 1) .long := (hK1.2 1 (cs 1, .long) rfl).2
    exact Option.some.inj (e1.symm.trans e2)
  subst hcA
  have ha : a = bs + n := eb_q (fun x hx => hx) h2 h1 hsz (by omega)
  subst ha
  exact k l D cs b0 bs p e R s' m args below meth c' Zf C hE hqq H1 locs l' (hP.push (e := eb_la N (fun _ => 0)) h1 h3) hL
theorem V_newz {i : Int} {N : Nat} (hd : eb_at M pc pc' (.newarray .boolean) 2) (hw : Cond.arrayClass .boolean ∈ eb_ts) (hi : i = (N : Int)) (hN : N ≤ 100000) (hc : c + 1 ≤ eb_mc M ∧ s + N ≤ eb_ms M) (k : eb_V M E pc' ls (.ref n :: st) (n + 1, c + 1, s + N) (eb_up h n (eb_za N (fun _ => 0))) Q) : eb_V M E pc ls (.int (eb_I i) :: st) (n, c, s) h Q := by
  obtain ⟨hd, rfl⟩ := hd
  subst hi
  intro l D cs b0 bs p e R s' m args below meth c' Zf C hE hqq H locs l' hP hL
  have hts := C.2.2.2.2.1
  have hC := C.2.2.2.2.2.2.1
  refine va_newa (atype := .boolean) (ty := .boolean) (a0 := (N, .inl (fun _ => 0))) C.1 C.2.1 (hts _ hw) rfl hP.2.1.1 hP.1 eb_w_D hP.2.2.1 (fun x hx => Nat.le_trans hP.2.2.2.1.2 hx) (fun cA => rfl) (by rw [show (0 : Int32) = eb_I 0 from rfl, eb_I_lt (by omega) (by omega)]; omega) (N' := N) (by rw [eb_I_nat (by omega)]; simp) (by show N * 1 ≤ _; omega) (by simp only; omega) (by simp only; omega) hd (fun a cA H1 hK1 h1 h2 h3 => ?_)
  refine eb_sized (fun hsz => ?_)
  have hz := hP.2.2.2.1.1
  simp only at hz hsz
  have hcA : cA = cs 2 := by
    have e1 : va_RA s' cA .boolean := (hK1.2 5 (cA, .boolean) rfl).2
    have e2 : va_RA s' (cs 2) .boolean := (hK1.2 2 (cs 2, .boolean) rfl).2
    exact Option.some.inj (e1.symm.trans e2)
  subst hcA
  have ha : a = bs + n := eb_q (fun x hx => hx) h2 h1 hsz (by omega)
  subst ha
  exact k l D cs b0 bs p e R s' m args below meth c' Zf C hE hqq H1 locs l' (hP.push (e := eb_za N (fun _ => 0)) h1 h3) hL
theorem V_newq {i : Int} {N t idx : Nat} {C0 : String} (hd : eb_at M pc pc' (.anewarray idx) 3) (ht : (t = 3 ∧ C0 = RX7) ∨ (t = 4 ∧ C0 = RX2)) (hw : Cond.classLink (eb_y M).cls idx C0 ∈ eb_ts) (hi : i = (N : Int)) (hN : N ≤ 100000) (hc : c + 1 ≤ eb_mc M ∧ s + N ≤ eb_ms M) (k : eb_V M E pc' ls (.ref n :: st) (n + 1, c + 1, s + N) (eb_up h n (eb_qa t N (fun _ => none))) Q) : eb_V M E pc ls (.int (eb_I i) :: st) (n, c, s) h Q := by
  obtain ⟨hd, rfl⟩ := hd
  subst hi
  intro l D cs b0 bs p e R s' m args below meth c' Zf C hE hqq H locs l' hP hL
  have hts := C.2.2.2.2.1
  have hC := C.2.2.2.2.2.2.1
  have hAO : va_AO C0 s' := by
    rcases ht with ⟨-, rfl⟩ | ⟨-, rfl⟩
    · exact hP.2.1.2.1
    · exact hP.2.1.2.2.1
  refine va_newq (C := C0) C.1 C.2.1 C.2.2.2.1 (hts _ hw) hAO hP.2.1.1 hP.1 eb_w_D hP.2.2.1 (fun x hx => Nat.le_trans hP.2.2.2.1.2 hx) (by rw [show (0 : Int32) = eb_I 0 from rfl, eb_I_lt (by omega) (by omega)]; omega) (N' := N) (by rw [eb_I_nat (by omega)]; simp) (by omega) (by simp only; omega) (by simp only; omega) hd (fun a cA H1 hK1 h1 h2 h3 => ?_)
  refine eb_sized (fun hsz => ?_)
  have hz := hP.2.2.2.1.1
  simp only at hz hsz
  have hcA : cA = cs t := by
    obtain ⟨_, _, _, _, _, e1⟩ := (hK1.2 5 (cA, .object C0) rfl).2
    rcases ht with ⟨rfl, rfl⟩ | ⟨rfl, rfl⟩
    · obtain ⟨_, _, _, _, _, e2⟩ := (hK1.2 3 (cs 3, .object RX7) rfl).2
      exact Option.some.inj (e1.symm.trans e2)
    · obtain ⟨_, _, _, _, _, e2⟩ := (hK1.2 4 (cs 4, .object RX2) rfl).2
      exact Option.some.inj (e1.symm.trans e2)
  subst hcA
  have ha : a = bs + n := eb_q (fun x hx => hx) h2 h1 hsz (by omega)
  subst ha
  exact k l D cs b0 bs p e R s' m args below meth c' Zf C hE hqq H1 locs l' (hP.push (e := eb_qa t N (fun _ => none)) h1 h3) hL
theorem V_oinit {idx b : Nat} {z : eb_Z} (hd : eb_at M pc pc' (.invokespecial idx) 3) (h1 : Cond.methodLink (eb_y M).cls idx objectInit ∈ eb_ts) (h2 : Cond.instanceMethod objectInit ∈ eb_ts) (h3 : Cond.code objectInit ⟨#[0xb1]⟩ 1 none ∈ eb_ts) (hlv : 1 ≤ eb_lv M) (hst : (st.map Value.category).sum ≤ 8) (k : eb_V M E pc' ls st z h Q) : eb_V M E pc ls (.ref b :: st) z h Q := by
  obtain ⟨hd, rfl⟩ := hd
  refine eb_V.go (fun l D cs b0 bs p e R s m args below meth c Zf C hE H locs l' hP hL kk => ?_) k
  have hts := C.2.2.2.2.1
  have hR := C.2.2.2.2.2.1
  refine W.objInit C.1 C.2.1 C.2.2.2.1 (hts _ h1) (hts _ h2) (hts _ h3) rfl (by rw [C.2.2.1]; exact hL.1) rfl hd (by omega) ?_ ?_
  · have := eb_room (b0 := b0) (bs := bs) hst
    show 2 * 0 + _ + 12 ≤ R.locals
    omega
  · exact kk H locs l' hP hL
theorem V_acopy {idx a0 a n0 n1 : Nat} {f g : Nat → Int} {sp dp nn : Int} {z : eb_Z} (hd : eb_at M pc pc' (.invokestatic idx) 3) (h1 : Cond.methodLink (eb_y M).cls idx arraycopyName ∈ eb_ts) (h2 : Cond.native arraycopyName ∈ eb_ts) (h3 : Cond.static arraycopyName ∈ eb_ts) (h4 : Cond.initialized "java/lang/System" ∈ eb_ts) (hlv : 1 ≤ eb_lv M) (hst : (st.map Value.category).sum ≤ 8)
    (he0 : h a0 = eb_la n0 f) (he1 : h a = eb_la n1 g) (hr : n0 ≤ 100000 ∧ n1 ≤ 100000 ∧ 0 ≤ sp ∧ 0 ≤ dp ∧ 0 ≤ nn ∧ sp + nn ≤ n0 ∧ dp + nn ≤ n1)
    (k : eb_V M E pc' ls st z (eb_up h a (eb_la n1 (va_cpy f g sp.toNat dp.toNat nn.toNat))) Q) : eb_V M E pc ls (.int (eb_I nn) :: .int (eb_I dp) :: .ref a :: .int (eb_I sp) :: .ref a0 :: st) z h Q := by
  obtain ⟨hd, rfl⟩ := hd
  refine eb_V.go (fun l D cs b0 bs p e R s m args below meth c Zf C hE H locs l' hP hL kk => ?_) k
  have hts := C.2.2.2.2.1
  have hR := C.2.2.2.2.2.1
  have hn : ∀ x : Int, 0 ≤ x → x ≤ 200000 → ¬ eb_I x < 0 := fun x h0 h9 => by rw [show (0 : Int32) = eb_I 0 from rfl, eb_I_lt (by omega) (by omega)]; omega
  have hnat : nativeFrameWords "java/lang/System" "arraycopy" 5 ≤ 17 := by decide +kernel
  refine va_copyl (ty := .long) C.1 C.2.1 (C.2.2.1.trans hL.1.symm) C.2.2.2.1 (hts _ h1) (hts _ h2) (hts _ h3) (hts _ h4) hP.2.1.1 hP.1 eb_w_D hP.2.2.1 a0 a 1 1 (hP.w he0 (by intro e; cases e)) (hP.w he1 (by intro e; cases e)) rfl rfl rfl (hn sp (by omega) (by omega)) (hn dp (by omega) (by omega)) (hn nn (by omega) (by omega)) (by rw [eb_I_nat (by omega), eb_I_nat (by omega)]; omega) (by rw [eb_I_nat (by omega), eb_I_nat (by omega)]; omega) (fun i hi => rfl) (by omega) ?_ hd (fun H1 locs1 g1 g2 g3 => kk H1 locs1 l' ?_ hL)
  · have := eb_room (b0 := b0) (bs := bs) hst
    omega
  · rw [eb_I_nat (by omega), eb_I_nat (by omega), eb_I_nat (by omega)] at g1
    refine hP.up he1 (by intro e; cases e) (e := eb_la n1 (va_cpy f g sp.toNat dp.toNat nn.toNat)) ?_ g3
    have : (fun j => eb_J (va_cpy f g sp.toNat dp.toNat nn.toNat j)) = va_cpy (fun j => eb_J (f j)) (fun j => eb_J (g j)) sp.toNat dp.toNat nn.toNat := by funext j; simp only [va_cpy]; split <;> rfl
    show va_P D vwCl ((eb_w cs b0 bs z.1 h).set a (bs + a, .inl (cs 1, n1, .inr (.inl (fun j => eb_J (va_cpy f g sp.toNat dp.toNat nn.toNat j)))))) H1
    rw [this]
    exact g1
end EBN
