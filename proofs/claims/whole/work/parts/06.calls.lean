section EBA
variable {M : eb_M} {E : Nat → Nat → State → Prop} {pc pc' : Nat} {ls st : List Value} {z : eb_Z} {h : eb_H} {Q : Nat → List Value → List Value → eb_Z → eb_H → Prop}
theorem V_iald {a n : Nat} {f : Nat → Int} {i : Int} (hd : eb_at M pc pc' .iaload 1) (he : h a = eb_ia n f) (hi : 0 ≤ i ∧ i < (n : Int) ∧ n ≤ 2147483647) (k : eb_V M E pc' ls (.int (eb_I (f i.toNat)) :: st) z h Q) : eb_V M E pc ls (.int (eb_I i) :: .ref a :: st) z h Q := by
  obtain ⟨hd, rfl⟩ := hd
  refine eb_V.go (fun l D cs b0 bs p e R s m args below meth c Zf C hE H locs l' hP hL kk => ?_) k
  exact va_iald C.1 C.2.1 hP.2.1.1 hP.1 a 0 (hP.w he (by intro e; cases e)) rfl (eb_I_in ⟨hi.1, hi.2.1⟩ hi.2.2) hd (by simp only [eb_I_nat (show 0 ≤ i ∧ i ≤ 2147483647 by omega)]; exact kk H locs l' hP hL)
theorem V_lald {a n : Nat} {f : Nat → Int} {i : Int} (hd : eb_at M pc pc' .laload 1) (he : h a = eb_la n f) (hi : 0 ≤ i ∧ i < (n : Int) ∧ n ≤ 2147483647) (k : eb_V M E pc' ls (.long (eb_J (f i.toNat)) :: st) z h Q) : eb_V M E pc ls (.int (eb_I i) :: .ref a :: st) z h Q := by
  obtain ⟨hd, rfl⟩ := hd
  refine eb_V.go (fun l D cs b0 bs p e R s m args below meth c Zf C hE H locs l' hP hL kk => ?_) k
  exact va_lald C.1 C.2.1 hP.2.1.1 hP.1 a 1 (hP.w he (by intro e; cases e)) rfl (eb_I_in ⟨hi.1, hi.2.1⟩ hi.2.2) hd (by simp only [eb_I_nat (show 0 ≤ i ∧ i ≤ 2147483647 by omega)]; exact kk H locs l' hP hL)
theorem V_zald {a n : Nat} {f : Nat → Int} {i : Int} (hd : eb_at M pc pc' .baload 1) (he : h a = eb_za n f) (hi : 0 ≤ i ∧ i < (n : Int) ∧ n ≤ 2147483647) (k : eb_V M E pc' ls (.int (eb_I (f i.toNat)) :: st) z h Q) : eb_V M E pc ls (.int (eb_I i) :: .ref a :: st) z h Q := by
  obtain ⟨hd, rfl⟩ := hd
  refine eb_V.go (fun l D cs b0 bs p e R s m args below meth c Zf C hE H locs l' hP hL kk => ?_) k
  exact va_zald C.1 C.2.1 hP.2.1.1 hP.1 a 2 (hP.w he (by intro e; cases e)) rfl (eb_I_in ⟨hi.1, hi.2.1⟩ hi.2.2) hd (by simp only [eb_I_nat (show 0 ≤ i ∧ i ≤ 2147483647 by omega)]; exact kk H locs l' hP hL)
theorem V_aald {a n t q : Nat} {f : Nat → Option Nat} {i : Int} (hd : eb_at M pc pc' .aaload 1) (ht : t = 3 ∨ t = 4) (he : h a = eb_qa t n f) (hi : 0 ≤ i ∧ i < (n : Int) ∧ n ≤ 2147483647) (hq : f i.toNat = some q) (k : eb_V M E pc' ls (.ref q :: st) z h Q) : eb_V M E pc ls (.int (eb_I i) :: .ref a :: st) z h Q := by
  obtain ⟨hd, rfl⟩ := hd
  refine eb_V.go (fun l D cs b0 bs p e R s m args below meth c Zf C hE H locs l' hP hL kk => ?_) k
  have kk1 := kk H locs l' hP hL
  rcases ht with rfl | rfl
  · refine va_aldq C.1 C.2.1 hP.2.1.1 hP.1 a 3 (hP.w he (by intro e; cases e)) rfl (eb_I_in ⟨hi.1, hi.2.1⟩ hi.2.2) hd ?_
    simp only [eb_I_nat (show 0 ≤ i ∧ i ≤ 2147483647 by omega), hq]
    exact kk1
  · refine va_aldq C.1 C.2.1 hP.2.1.1 hP.1 a 4 (hP.w he (by intro e; cases e)) rfl (eb_I_in ⟨hi.1, hi.2.1⟩ hi.2.2) hd ?_
    simp only [eb_I_nat (show 0 ≤ i ∧ i ≤ 2147483647 by omega), hq]
    exact kk1
theorem V_iast {a n : Nat} {f : Nat → Int} {i x : Int} (hd : eb_at M pc pc' .iastore 1) (he : h a = eb_ia n f) (hi : 0 ≤ i ∧ i < (n : Int) ∧ n ≤ 2147483647) (k : eb_V M E pc' ls st z (eb_up h a (eb_ia n (eb_set f i.toNat x))) Q) : eb_V M E pc ls (.int (eb_I x) :: .int (eb_I i) :: .ref a :: st) z h Q := by
  obtain ⟨hd, rfl⟩ := hd
  refine eb_V.go (fun l D cs b0 bs p e R s m args below meth c Zf C hE H locs l' hP hL kk => ?_) k
  refine va_iast C.1 C.2.1 hP.2.1.1 hP.1 eb_w_D hP.2.2.1 a 0 (hP.w he (by intro e; cases e)) rfl (eb_I_in ⟨hi.1, hi.2.1⟩ hi.2.2) hd (fun H1 locs1 h1 h2 h3 => kk H1 locs1 l' ?_ hL)
  rw [eb_I_nat (show 0 ≤ i ∧ i ≤ 2147483647 by omega), eb_upd_I] at h1
  exact hP.up he (by intro e; cases e) h1 h3
theorem V_last {a n : Nat} {f : Nat → Int} {i x : Int} (hd : eb_at M pc pc' .lastore 1) (he : h a = eb_la n f) (hi : 0 ≤ i ∧ i < (n : Int) ∧ n ≤ 2147483647) (k : eb_V M E pc' ls st z (eb_up h a (eb_la n (eb_set f i.toNat x))) Q) : eb_V M E pc ls (.long (eb_J x) :: .int (eb_I i) :: .ref a :: st) z h Q := by
  obtain ⟨hd, rfl⟩ := hd
  refine eb_V.go (fun l D cs b0 bs p e R s m args below meth c Zf C hE H locs l' hP hL kk => ?_) k
  refine va_last C.1 C.2.1 hP.2.1.1 hP.1 eb_w_D hP.2.2.1 a 1 (hP.w he (by intro e; cases e)) rfl (eb_I_in ⟨hi.1, hi.2.1⟩ hi.2.2) hd (fun H1 locs1 h1 h2 h3 => kk H1 locs1 l' ?_ hL)
  rw [eb_I_nat (show 0 ≤ i ∧ i ≤ 2147483647 by omega)] at h1
  refine hP.up he (by intro e; cases e) (e := eb_la n (eb_set f i.toNat x)) ?_ h3
  have : (fun j => eb_J (eb_set f i.toNat x j)) = fun j => if j = i.toNat then eb_J x else eb_J (f j) := by funext j; simp only [eb_set]; split <;> rfl
  show va_P D vwCl ((eb_w cs b0 bs z.1 h).set a (bs + a, .inl (cs 1, n, .inr (.inl (fun j => eb_J (eb_set f i.toNat x j)))))) H1
  rw [this]
  exact h1
theorem V_zast {a n : Nat} {f : Nat → Int} {i x : Int} (hd : eb_at M pc pc' .bastore 1) (he : h a = eb_za n f) (hi : 0 ≤ i ∧ i < (n : Int) ∧ n ≤ 2147483647) (hx : x = 0 ∨ x = 1) (k : eb_V M E pc' ls st z (eb_up h a (eb_za n (eb_set f i.toNat x))) Q) : eb_V M E pc ls (.int (eb_I x) :: .int (eb_I i) :: .ref a :: st) z h Q := by
  obtain ⟨hd, rfl⟩ := hd
  refine eb_V.go (fun l D cs b0 bs p e R s m args below meth c Zf C hE H locs l' hP hL kk => ?_) k
  refine va_zast C.1 C.2.1 hP.2.1.1 hP.1 eb_w_D hP.2.2.1 a 2 (hP.w he (by intro e; cases e)) rfl (eb_I_in ⟨hi.1, hi.2.1⟩ hi.2.2) hd (fun H1 locs1 h1 h2 h3 => kk H1 locs1 l' ?_ hL)
  have hn : vp_nar .boolean (eb_I x) = eb_I x := by rcases hx with rfl | rfl <;> rfl
  rw [eb_I_nat (show 0 ≤ i ∧ i ≤ 2147483647 by omega), hn, eb_upd_I] at h1
  exact hP.up he (by intro e; cases e) h1 h3
theorem V_aast {a n t q ci : Nat} {f : Nat → Option Nat} {fs : List Value} {i : Int} (hd : eb_at M pc pc' .aastore 1) (ht : (t = 3 ∧ ci = 6) ∨ (t = 4 ∧ ci = 2)) (he : h a = eb_qa t n f) (hv : h q = .inr (ci, fs)) (hi : 0 ≤ i ∧ i < (n : Int) ∧ n ≤ 2147483647) (k : eb_V M E pc' ls st z (eb_up h a (eb_qa t n (eb_set f i.toNat (some q)))) Q) : eb_V M E pc ls (.ref q :: .int (eb_I i) :: .ref a :: st) z h Q := by
  obtain ⟨hd, rfl⟩ := hd
  refine eb_V.go (fun l D cs b0 bs p e R s m args below meth c Zf C hE H locs l' hP hL kk => ?_) k
  have key : (fun j => (eb_set f i.toNat (some q) j).map (fun k => bs + k)) = va_up (fun j => (f j).map (fun k => bs + k)) i.toNat (some (bs + q)) := by
    funext j; simp only [eb_set, va_up]; split <;> rfl
  rcases ht with ⟨rfl, rfl⟩ | ⟨rfl, rfl⟩
  · refine va_astq (r := (RX7, TX7, 6)) C.1 C.2.1 hP.2.1.1 hP.1 eb_w_D hP.2.2.1 a 3 q 6 (hP.w he (by intro e; cases e)) rfl (hP.w hv (by intro e; cases e)) rfl (eb_I_in ⟨hi.1, hi.2.1⟩ hi.2.2) hd (fun H1 locs1 h1 h2 h3 => kk H1 locs1 l' ?_ hL)
    rw [eb_I_nat (show 0 ≤ i ∧ i ≤ 2147483647 by omega), ← key] at h1
    exact hP.up he (by intro e; cases e) (e := eb_qa 3 n (eb_set f i.toNat (some q))) h1 h3
  · refine va_astq (r := (RX2, TX2, 3)) C.1 C.2.1 hP.2.1.1 hP.1 eb_w_D hP.2.2.1 a 4 q 2 (hP.w he (by intro e; cases e)) rfl (hP.w hv (by intro e; cases e)) rfl (eb_I_in ⟨hi.1, hi.2.1⟩ hi.2.2) hd (fun H1 locs1 h1 h2 h3 => kk H1 locs1 l' ?_ hL)
    rw [eb_I_nat (show 0 ≤ i ∧ i ≤ 2147483647 by omega), ← key] at h1
    exact hP.up he (by intro e; cases e) (e := eb_qa 4 n (eb_set f i.toNat (some q))) h1 h3
theorem V_alen {a n : Nat} {f : Nat → Int} (hd : eb_at M pc pc' .arraylength 1) (he : h a = eb_ia n f) (k : eb_V M E pc' ls (.int (eb_I n) :: st) z h Q) : eb_V M E pc ls (.ref a :: st) z h Q := by
  obtain ⟨hd, rfl⟩ := hd
  refine eb_V.go (fun l D cs b0 bs p e R s m args below meth c Zf C hE H locs l' hP hL kk => ?_) k
  exact va_alen C.1 C.2.1 hP.2.1.1 hP.1 a 0 (hP.w he (by intro e; cases e)) rfl (by show Int32.ofNat n = _; exact (Int32.ofInt_eq_ofNat (n := n)).symm) hd (kk H locs l' hP hL)
/-- switches -/
theorem V_tswOut {d lo hi a : Int} {offs : Array Int} {n tgt : Nat} (hd : eb_at M pc pc' (.tableswitch d lo hi offs) n) (hr : -2147483648 ≤ a ∧ a ≤ 2147483647) (hh : a < lo ∨ hi < a) (ht : (pc : Int) + d = (tgt : Int)) (k : eb_V M E tgt ls st z h Q) : eb_V M E pc ls (.int (eb_I a) :: st) z h Q := by
  obtain ⟨hd, rfl⟩ := hd
  refine eb_V.go (fun l D cs b0 bs p e R s m args below meth c Zf C hE H locs l' hP hL kk => ?_) k
  exact lv_tableOut (tgt := tgt) C.1 C.2.1 hd (by rw [eb_I_to hr]; exact hh) ht (kk H locs l' hP hL)
theorem V_tswIn {d lo hi a off : Int} {offs : Array Int} {n tgt : Nat} (hd : eb_at M pc pc' (.tableswitch d lo hi offs) n) (hr : -2147483648 ≤ a ∧ a ≤ 2147483647) (hh : lo ≤ a ∧ a ≤ hi) (ho : offs[(a - lo).toNat]? = some off) (ht : (pc : Int) + off = (tgt : Int)) (k : eb_V M E tgt ls st z h Q) : eb_V M E pc ls (.int (eb_I a) :: st) z h Q := by
  obtain ⟨hd, rfl⟩ := hd
  refine eb_V.go (fun l D cs b0 bs p e R s m args below meth c Zf C hE H locs l' hP hL kk => ?_) k
  exact lv_tableIn (tgt := tgt) C.1 C.2.1 hd (by rw [eb_I_to hr]; omega) (by rw [eb_I_to hr]; omega) (by rw [eb_I_to hr]; exact ho) ht (kk H locs l' hP hL)
theorem V_lsw {d a off : Int} {ps : Array (Int × Int)} {n tgt : Nat} (hd : eb_at M pc pc' (.lookupswitch d ps) n) (hr : -2147483648 ≤ a ∧ a ≤ 2147483647) (hp : (ps.toList.zip (ps.toList.drop 1)).all (fun (a, next) => a.1 < next.1) = true) (ho : Op.lookupswitch.offset ps.toList d a = off) (ht : (pc : Int) + off = (tgt : Int)) (k : eb_V M E tgt ls st z h Q) : eb_V M E pc ls (.int (eb_I a) :: st) z h Q := by
  obtain ⟨hd, rfl⟩ := hd
  refine eb_V.go (fun l D cs b0 bs p e R s m args below meth c Zf C hE H locs l' hP hL kk => ?_) k
  exact lv_lookup (tgt := tgt) C.1 C.2.1 hd hp (by rw [eb_I_to hr]; exact ho) ht (kk H locs l' hP hL)
/-- ends -/
theorem V_iret {n c s : Nat} {x : Int} {ty : FieldType} {Qr : Option Value → Nat → eb_H → Prop} (hd : eb_at M pc pc' .ireturn 1) (hc : c ≤ eb_mc M ∧ s ≤ eb_ms M) (hr : eb_ret M = some ty) (hn : narrow ty (.int (eb_I x)) = .int (eb_I x)) (hq : Qr (some (.int (eb_I x))) n h) : eb_V M E pc ls [.int (eb_I x)] (n, c, s) h (eb_R M Qr) :=
  eb_V.done ⟨hc, _, hq, Or.inl ⟨_, ty, hd.1, rfl, rfl, hr, hn⟩⟩
theorem V_lret {n c s : Nat} {x : Int} {Qr : Option Value → Nat → eb_H → Prop} (hd : eb_at M pc pc' .lreturn 1) (hc : c ≤ eb_mc M ∧ s ≤ eb_ms M) (hr : eb_ret M = some .long) (hq : Qr (some (.long (eb_J x))) n h) : eb_V M E pc ls [.long (eb_J x)] (n, c, s) h (eb_R M Qr) :=
  eb_V.done ⟨hc, _, hq, Or.inr (Or.inl ⟨_, hd.1, rfl, rfl, hr⟩)⟩
theorem V_vret {n c s : Nat} {Qr : Option Value → Nat → eb_H → Prop} (hd : eb_at M pc pc' .return_ 1) (hc : c ≤ eb_mc M ∧ s ≤ eb_ms M) (hr : eb_ret M = none) (hq : Qr none n h) : eb_V M E pc ls [] (n, c, s) h (eb_R M Qr) :=
  eb_V.done ⟨hc, _, hq, Or.inr (Or.inr (Or.inl ⟨hd.1, rfl, rfl, hr⟩))⟩
theorem V_aret {n c s k : Nat} {rt : FieldType} {Qr : Option Value → Nat → eb_H → Prop} (hd : eb_at M pc pc' .areturn 1) (hc : c ≤ eb_mc M ∧ s ≤ eb_ms M) (hr : eb_ret M = some rt) (hk : (∃ n, rt = .object n) ∨ ∃ t, rt = .array t) (hq : Qr (some (.ref k)) n h) : eb_V M E pc ls [.ref k] (n, c, s) h (eb_R M Qr) :=
  eb_V.done ⟨hc, _, hq, Or.inr (Or.inr (Or.inr ⟨k, rt, hd.1, rfl, rfl, hr, hk⟩))⟩
end EBA
/-- what a call asks of the method that it calls -/
def eb_okm (M : eb_M) (np : Nat) : Prop := Cond.code (eb_y M) (eb_code M) (eb_nl M) (eb_ret M) ∈ eb_ts ∧ Cond.initialized (eb_y M).cls ∈ eb_ts ∧ ((eb_y M).cls ≠ "java/lang/invoke/MethodHandle" ∧ (eb_y M).cls ≠ "java/lang/invoke/VarHandle" ∧ (parseMethodDescriptor (eb_y M).desc).map (fun d => d.parameters.length) = some np) ∧ eb_nl M ≤ 17
def eb_cv (M : eb_M) (pc pc' : Nat) (M' : eb_M) (np : Nat) : Prop := ∃ (idx : Nat) (q : vw_C), decode (eb_code M) pc = .ok (.invokevirtual idx, 3) ∧ pc + 3 = pc' ∧ Cond.methodLink (eb_y M).cls idx (eb_y M') ∈ eb_ts ∧ Cond.instanceMethod (eb_y M') ∈ eb_ts ∧ Cond.selects (eb_y M').cls (eb_y M') (eb_y M') ∈ eb_ts ∧ eb_lv M' + 1 ≤ eb_lv M ∧ vwCl[eb_ci M']? = some q ∧ q.1 = (eb_y M').cls ∧ eb_okm M' np
def eb_cs (M : eb_M) (pc pc' : Nat) (M' : eb_M) (np : Nat) : Prop := ∃ (idx : Nat), decode (eb_code M) pc = .ok (.invokestatic idx, 3) ∧ pc + 3 = pc' ∧ Cond.methodLink (eb_y M).cls idx (eb_y M') ∈ eb_ts ∧ Cond.static (eb_y M') ∈ eb_ts ∧ eb_lv M' + 1 ≤ eb_lv M ∧ eb_okm M' np
def eb_cc (M : eb_M) (pc pc' : Nat) (M' : eb_M) (np : Nat) : Prop := ∃ (idx : Nat), decode (eb_code M) pc = .ok (.invokespecial idx, 3) ∧ pc + 3 = pc' ∧ (Cond.methodLink (eb_y M).cls idx (eb_y M') ∈ eb_ts ∨ ∃ host, Cond.methodLinkNest (eb_y M).cls idx (eb_y M') host ∈ eb_nw) ∧ (eb_y M').name = "<init>" ∧ Cond.instanceMethod (eb_y M') ∈ eb_ts ∧ eb_lv M' + 1 ≤ eb_lv M ∧ eb_ret M' = none ∧ eb_okm M' np
theorem eb_good {M : eb_M} {np : Nat} (h : eb_okm M np) : GoodIn eb_ts (eb_ws M) := by
  intro w hw
  have hm : w ∈ eb_ts := by
    rcases List.mem_cons.mp hw with rfl | hw
    · exact h.1
    · exact hw
  exact ⟨hm, good_of_word (List.mem_filter.mp hm).2⟩
section EBK
variable {p : Program} {l : Launch} {e : Env} {R : Room} {s : State} {m : MethodId} {args : Array Value} {below : List Frame} {meth : Method} {c : Code} {H : Heap} {locs : List Loc} {Zf : State → Prop} {D : va_G} {cs : Nat → ClassId} {b0 bs : Nat} {pc : Nat} {l' : Array Slot} {rest st0 : List Value} {a : Array Value}
theorem eb_after {M' : eb_M} {z : eb_Z} {h : eb_H} {Q' : Option Value → Nat → eb_H → Prop} (hP : eb_P D cs b0 bs s z h H locs) (hz : H.size = bs + z.1)
    (hr : va_Run p l e R s m args below meth c H locs z.2.1 z.2.2 (eb_mc M') (eb_ms M') (F0 m pc l' st0) rest (fun st oc t => (∃ (r : Option Value) (n' : Nat) (h' : eb_H), oc = .returned (r.map (eb_v b0 bs)) ∧ Q' r n' h' ∧ t.heap.size = bs + n' ∧ va_P D vwCl (eb_w cs b0 bs n' h') t.heap ∧ eb_wf n' h') ∧ va_F (fun q => bs ≤ q) st t) (fun q => bs ≤ q))
    (hmc : eb_mc M' = 0 ∨ ∀ r n' h', Q' r n' h' → z.1 + eb_mc M' ≤ n')
    (kk : ∀ (r : Option Value) (n' : Nat) (h' : eb_H) (H1 : Heap) (locs1 : List Loc), Q' r n' h' → eb_P D cs b0 bs s (n', z.2.1 + eb_mc M', z.2.2 + eb_ms M') h' H1 locs1 → W p l e R s m args below meth c H1 locs1 (z.2.1 + eb_mc M') (z.2.2 + eb_ms M') Zf (F0 m (pc + 3) l' ((r.map (eb_v b0 bs)).toList ++ rest))) :
    W p l e R s m args below meth c H locs z.2.1 z.2.2 Zf (F0 m pc l' st0) := by
  intro T hT X
  obtain ⟨v, st₀, t, T', L, h0, X', hL, e1, e2, ⟨⟨r, n', h', hv, hq, hz1, hP1, hw1⟩, hF⟩, st⟩ := hr T hT X
  cases hv
  obtain ⟨hPa, hPb, hPc, ⟨hPd, hPe⟩, hPf⟩ := hP
  have hF1 := hF.1
  have hF2 := hF.2
  rw [h0] at hF1 hF2
  have hsz : s.heap.size + (z.2.1 + eb_mc M') ≤ bs + n' := by
    rcases hmc with q | q
    · rw [hz, hz1] at hF1
      omega
    · have := q r n' h' hq
      omega
  obtain ⟨t2, a1, b1⟩ := kk r n' h' T'.heap (locs ++ L) hq ⟨by rw [e1]; exact hP1, hPb, ⟨Nat.le_trans hPc.1 (by rw [e1]; exact hF1), fun q h1 h2 => by
      rw [e1, hF2 q (Nat.lt_of_lt_of_le h1 hPc.1) h2]
      exact hPc.2.1 q h1 h2, fun q hq => by
      rcases List.mem_append.mp hq with h | h
      · exact hPc.2.2 q h
      · exact hL q h⟩, ⟨hsz, hPe⟩, hw1⟩ T' rfl X'
  exact ⟨t2, st t2 a1, b1⟩
theorem eb_blind {as : List Value} {n : Nat} {h : eb_H} : FrameBlind (va_Pc (as.map (eb_v b0 bs)) (fun U => U.heap.size = bs + n ∧ va_P D vwCl (eb_w cs b0 bs n h) U.heap ∧ eb_K D cs U ∧ eb_wf n h)) :=
  fun a U g mk q => ⟨q.1, q.2.1, q.2.2.1, q.2.2.2.1.calling, q.2.2.2.2⟩
end EBK
theorem eb_room {b0 bs : Nat} {st : List Value} (h : (st.map Value.category).sum ≤ 8) : ((st.map (eb_v b0 bs)).map fun v => v.category).sum ≤ 8 := by
  rw [List.map_map]
  have : ((fun v => Value.category v) ∘ eb_v b0 bs) = Value.category := by funext v; exact eb_v_cat b0 bs v
  rw [this]
  exact h
section EBC
variable {M : eb_M} {E : Nat → Nat → State → Prop} {pc pc' : Nat} {ls st stk : List Value} {n c s : Nat} {h : eb_H} {Q : Nat → List Value → List Value → eb_Z → eb_H → Prop}
theorem V_callv {M' : eb_M} {np b : Nat} {As fs : List Value} {Q' : Option Value → Nat → eb_H → Prop} (hd : eb_cv M pc pc' M' np) (T : eb_T M' (.ref b :: As) n h Q') (he : h b = .inr (eb_ci M', fs)) (hs : stk = As.reverse ++ .ref b :: st) (hn : As.length = np) (hst : (st.map Value.category).sum ≤ 8) (hc : c + eb_mc M' ≤ eb_mc M ∧ s + eb_ms M' ≤ eb_ms M) (hmc : eb_mc M' = 0 ∨ ∀ r n' h', Q' r n' h' → n + eb_mc M' ≤ n')
    (k : ∀ r n' h', Q' r n' h' → eb_V M E pc' ls (r.toList ++ st) (n', c + eb_mc M', s + eb_ms M') h' Q) : eb_V M E pc ls stk (n, c, s) h Q := by
  obtain ⟨idx, q, hd, rfl, hlk, hin, hse, hlv, hq, hqc, hok⟩ := hd
  intro l D cs b0 bs p e R s' m args below meth c' Zf C hE hqq H locs l' hP hL
  refine eb_sized (fun hsz => ?_)
  have hz := hP.size hsz
  have hts := C.2.2.2.2.1
  have hR := C.2.2.2.2.2.1
  have hC := C.2.2.2.2.2.2.1
  have cw : CallW R s' args (eb_y M).cls (eb_y M').cls idx (eb_y M') (eb_code M') (eb_nl M') (eb_ret M') (eb_ws M') (eb_rm M') (eb_mc M') (eb_ms M') np :=
    ⟨callB_of np hts (eb_good hok) rfl rfl rfl (hts _ hok.2.1) (hts _ hlk) hok.2.2.1 ⟨by show eb_lv M' + 1 ≤ R.frames; omega, by show 8 + (eb_nl M' + 11) + 36 * eb_lv M' ≤ R.locals; have := hok.2.2.2; omega⟩, hts _ hin, hts _ hse⟩
  have hne : (Sum.inr (eb_ci M', fs) : va_E) ≠ .inr (99, []) := by
    intro e
    have e1 : eb_ci M' = 99 := congrArg Prod.fst (Sum.inr.inj e)
    rw [e1] at hq; simp [vwCl] at hq
  have hrec := va_recv hP.2.1.1 hP.1 hq (hP.w he hne)
  rw [hqc] at hrec
  refine eb_after (M' := M') (rest := st.map (eb_v b0 bs)) hP hz (va_runV (As := As.map (eb_v b0 bs)) (b := bs + b) ⟨C.1, C.2.1, C.2.2.1, C.2.2.2.1, hts⟩ (T l D cs b0 bs) cw ⟨eb_blind, hrec, fun U hU hW => ⟨rfl, by rw [hU]; exact hz, by rw [hU]; exact hP.1, hP.2.1.warm hW, hP.2.2.2.2⟩⟩ rfl (by simpa using hn) hL.1 (by rw [hs]; simp [eb_v]) (lv_room (eb_room hst)) hd ⟨by simp only; omega, by simp only; omega⟩) hmc ?_
  intro r n' h' H1 locs1 hq' hP1
  have := k r n' h' hq' l D cs b0 bs p e R s' m args below meth c' Zf C hE hqq H1 locs1 l' hP1 hL
  rw [List.map_append, show List.map (eb_v b0 bs) r.toList = (r.map (eb_v b0 bs)).toList by cases r <;> rfl] at this
  exact this
theorem V_calls {M' : eb_M} {np : Nat} {As : List Value} {Q' : Option Value → Nat → eb_H → Prop} (hd : eb_cs M pc pc' M' np) (T : eb_T M' As n h Q') (hs : stk = As.reverse ++ st) (hn : As.length = np) (hst : (st.map Value.category).sum ≤ 8) (hc : c + eb_mc M' ≤ eb_mc M ∧ s + eb_ms M' ≤ eb_ms M) (hmc : eb_mc M' = 0 ∨ ∀ r n' h', Q' r n' h' → n + eb_mc M' ≤ n')
    (k : ∀ r n' h', Q' r n' h' → eb_V M E pc' ls (r.toList ++ st) (n', c + eb_mc M', s + eb_ms M') h' Q) : eb_V M E pc ls stk (n, c, s) h Q := by
  obtain ⟨idx, hd, rfl, hlk, hstt, hlv, hok⟩ := hd
  intro l D cs b0 bs p e R s' m args below meth c' Zf C hE hqq H locs l' hP hL
  refine eb_sized (fun hsz => ?_)
  have hz := hP.size hsz
  have hts := C.2.2.2.2.1
  have hR := C.2.2.2.2.2.1
  have hC := C.2.2.2.2.2.2.1
  have cw : CallB R s' args (eb_y M).cls idx (eb_y M') (eb_code M') (eb_nl M') (eb_ret M') (eb_ws M') (eb_rm M') (eb_mc M') (eb_ms M') np :=
    callB_of np hts (eb_good hok) rfl rfl rfl (hts _ hok.2.1) (hts _ hlk) hok.2.2.1 ⟨by show eb_lv M' + 1 ≤ R.frames; omega, by show 8 + (eb_nl M' + 11) + 36 * eb_lv M' ≤ R.locals; have := hok.2.2.2; omega⟩
  refine eb_after (M' := M') (rest := st.map (eb_v b0 bs)) hP hz (va_runS (As := As.map (eb_v b0 bs)) ⟨C.1, C.2.1, C.2.2.1, C.2.2.2.1, hts⟩ (T l D cs b0 bs) ⟨cw, hts _ hstt⟩ ⟨eb_blind, fun U hU hW => ⟨rfl, by rw [hU]; exact hz, by rw [hU]; exact hP.1, hP.2.1.warm hW, hP.2.2.2.2⟩⟩ rfl (by simpa using hn) hL.1 (by rw [hs]; simp) (lv_room (eb_room hst)) hd ⟨by simp only; omega, by simp only; omega⟩) hmc ?_
  intro r n' h' H1 locs1 hq' hP1
  have := k r n' h' hq' l D cs b0 bs p e R s' m args below meth c' Zf C hE hqq H1 locs1 l' hP1 hL
  rw [List.map_append, show List.map (eb_v b0 bs) r.toList = (r.map (eb_v b0 bs)).toList by cases r <;> rfl] at this
  exact this
theorem V_callc {M' : eb_M} {np b : Nat} {As : List Value} {Q' : Option Value → Nat → eb_H → Prop} (hd : eb_cc M pc pc' M' np) (T : eb_T M' (.ref b :: As) n h Q') (hs : stk = As.reverse ++ .ref b :: st) (hn : As.length = np) (hst : (st.map Value.category).sum ≤ 8) (hc : c + eb_mc M' ≤ eb_mc M ∧ s + eb_ms M' ≤ eb_ms M) (hmc : eb_mc M' = 0 ∨ ∀ r n' h', Q' r n' h' → n + eb_mc M' ≤ n')
    (k : ∀ r n' h', Q' r n' h' → eb_V M E pc' ls (r.toList ++ st) (n', c + eb_mc M', s + eb_ms M') h' Q) : eb_V M E pc ls stk (n, c, s) h Q := by
  obtain ⟨idx, hd, rfl, hlk, hy1, hin, hlv, hret, hok⟩ := hd
  intro l D cs b0 bs p e R s' m args below meth c' Zf C hE hqq H locs l' hP hL
  refine eb_sized (fun hsz => ?_)
  have hz := hP.size hsz
  have hts := C.2.2.2.2.1
  have hR := C.2.2.2.2.2.1
  have hC := C.2.2.2.2.2.2.1
  have hrm : (eb_rm M').frames + 1 ≤ R.frames ∧ 8 + (eb_nl M' + 11) + (eb_rm M').locals ≤ R.locals := ⟨by show eb_lv M' + 1 ≤ R.frames; omega, by show 8 + (eb_nl M' + 11) + 36 * eb_lv M' ≤ R.locals; have := hok.2.2.2; omega⟩
  have hw0 : eb_ws M' = Cond.code (eb_y M') (eb_code M') (eb_nl M') none :: eb_ts := by rw [← hret]; rfl
  have fin : ∀ (hr : va_Run p l e R s' m args below meth c' H locs c s (eb_mc M') (eb_ms M') (F0 m pc l' (stk.map (eb_v b0 bs))) (st.map (eb_v b0 bs)) (fun st oc t => (∃ (r : Option Value) (n' : Nat) (h' : eb_H), oc = .returned (r.map (eb_v b0 bs)) ∧ Q' r n' h' ∧ t.heap.size = bs + n' ∧ va_P D vwCl (eb_w cs b0 bs n' h') t.heap ∧ eb_wf n' h') ∧ va_F (fun q => bs ≤ q) st t) (fun q => bs ≤ q)), W p l e R s' m args below meth c' H locs c s Zf (F0 m pc l' (stk.map (eb_v b0 bs))) := by
    intro hr
    refine eb_after (M' := M') (z := (n, c, s)) (rest := st.map (eb_v b0 bs)) hP hz hr hmc ?_
    intro r n' h' H1 locs1 hq' hP1
    have := k r n' h' hq' l D cs b0 bs p e R s' m args below meth c' Zf C hE hqq H1 locs1 l' hP1 hL
    rw [List.map_append, show List.map (eb_v b0 bs) r.toList = (r.map (eb_v b0 bs)).toList by cases r <;> rfl] at this
    exact this
  have hpre : PreS s' H (va_Pc ((Value.ref b :: As).map (eb_v b0 bs)) (fun U => U.heap.size = bs + n ∧ va_P D vwCl (eb_w cs b0 bs n h) U.heap ∧ eb_K D cs U ∧ eb_wf n h)) (.ref (bs + b) :: As.map (eb_v b0 bs)) :=
    ⟨eb_blind, fun U hU hW => ⟨rfl, by rw [hU]; exact hz, by rw [hU]; exact hP.1, hP.2.1.warm hW, hP.2.2.2.2⟩⟩
  rcases hlk with hlk | ⟨host, hlk⟩
  · exact fin (va_runI (As := As.map (eb_v b0 bs)) (b := bs + b) ⟨C.1, C.2.1, C.2.2.1, C.2.2.2.1, hts⟩ (T l D cs b0 bs) (cwI np hts (eb_good hok) hw0 rfl rfl (hts _ hok.2.1) (hts _ hlk) (hts _ hin) hy1 hok.2.2.1 hrm) hpre rfl (by simpa using hn) hL.1 (by rw [hs]; simp [eb_v]) (lv_room (eb_room hst)) hd ⟨by omega, by omega⟩)
  · exact fin (va_runIN (As := As.map (eb_v b0 bs)) (b := bs + b) ⟨C.1, C.2.1, C.2.2.1, C.2.2.2.1, hts⟩ (T l D cs b0 bs) ⟨va_cnB np hts (eb_good hok) hw0 rfl rfl (hP.2.1.2.2.2 _ hlk) (hts _ hok.2.1) hok.2.2.1 hrm, hy1, hts _ hin⟩ hpre rfl (by simpa using hn) hL.1 (by rw [hs]; simp [eb_v]) (lv_room (eb_room hst)) hd ⟨by omega, by omega⟩)
end EBC
