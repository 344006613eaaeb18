theorem eb_mem {w : Cond} (i : Nat) (h : lw_tbl[i]? = some w) (hg : goodWord w = true) : w ∈ eb_ts := List.mem_filter.mpr ⟨List.mem_of_getElem? h, hg⟩
theorem eb_P.lt {D : va_G} {cs : Nat → ClassId} {b0 bs : Nat} {s : State} {z : eb_Z} {h : eb_H} {H : Heap} {locs : List Loc} (hP : eb_P D cs b0 bs s z h H locs) {a : Nat} {e : va_E} (he : h a = e) (hne : e ≠ .inr (99, [])) : a < z.1 := by
  rcases Nat.lt_or_ge a z.1 with q | q
  · exact q
  · exact absurd (he.symm.trans (hP.2.2.2.2 a q)) hne
theorem eb_wf.up {n : Nat} {h : eb_H} {a : Nat} {e : va_E} (hw : eb_wf n h) (ha : a < n) : eb_wf n (eb_up h a e) := fun k hk => by
  rw [eb_up, if_neg (by omega)]
  exact hw k hk
theorem eb_P.w {D : va_G} {cs : Nat → ClassId} {b0 bs : Nat} {s : State} {z : eb_Z} {h : eb_H} {H : Heap} {locs : List Loc} (hP : eb_P D cs b0 bs s z h H locs) {a : Nat} {e : va_E} (he : h a = e) (hne : e ≠ .inr (99, [])) : (eb_w cs b0 bs z.1 h)[a]? = some (bs + a, eb_e cs b0 bs e) := by
  rw [eb_w_at (hP.lt he hne), he]
theorem eb_P.up {D : va_G} {cs : Nat → ClassId} {b0 bs : Nat} {s : State} {z : eb_Z} {h : eb_H} {H H1 : Heap} {locs locs1 : List Loc} (hP : eb_P D cs b0 bs s z h H locs) {a : Nat} {e0 e : va_E} (he : h a = e0) (hne : e0 ≠ .inr (99, []))
    (h1 : va_P D vwCl ((eb_w cs b0 bs z.1 h).set a (bs + a, eb_e cs b0 bs e)) H1) (h2 : va_S (fun q => bs ≤ q) s.heap H1 locs1) : eb_P D cs b0 bs s z (eb_up h a e) H1 locs1 := by
  rw [eb_w_set (hP.lt he hne)] at h1
  exact ⟨h1, hP.2.1, h2, hP.2.2.2.1, hP.2.2.2.2.up (hP.lt he hne)⟩
/-- what the tables say of the classes -/
def eb_cok (q : vw_C) : Prop := (∀ k, k < q.2.2 → u_lay q.1 q.2.1 k ∈ eb_ts) ∧ ∃ ty : Nat → FieldType, (∀ k, k < q.2.2 → parseFieldDescriptor (q.2.1 k).2.2.1 = some (ty k)) ∧ (∀ a, a < q.2.2 → ∀ b, b < q.2.2 → a ≠ b → (q.2.1 a).2.1 ≠ (q.2.1 b).2.1)
theorem eb_inX0 : ∀ k, k < 3 → u_lay RX0 TX0 k ∈ eb_ts
  | 0, _ => eb_mem 181 (by decide +kernel) rfl
  | 1, _ => eb_mem 183 (by decide +kernel) rfl
  | 2, _ => eb_mem 185 (by decide +kernel) rfl
  | k + 3, h => absurd h (by omega)
theorem eb_inX1 : ∀ k, k < 1 → u_lay RX1 TX1 k ∈ eb_ts
  | 0, _ => eb_mem 166 (by decide +kernel) rfl
  | k + 1, h => absurd h (by omega)
theorem eb_inX2 : ∀ k, k < 3 → u_lay RX2 TX2 k ∈ eb_ts
  | 0, _ => eb_mem 284 (by decide +kernel) rfl
  | 1, _ => eb_mem 286 (by decide +kernel) rfl
  | 2, _ => eb_mem 288 (by decide +kernel) rfl
  | k + 3, h => absurd h (by omega)
theorem eb_inX3 : ∀ k, k < 13 → u_lay RX3 TX3 k ∈ eb_ts
  | 0, _ => eb_mem 216 (by decide +kernel) rfl
  | 1, _ => eb_mem 218 (by decide +kernel) rfl
  | 2, _ => eb_mem 220 (by decide +kernel) rfl
  | 3, _ => eb_mem 222 (by decide +kernel) rfl
  | 4, _ => eb_mem 224 (by decide +kernel) rfl
  | 5, _ => eb_mem 226 (by decide +kernel) rfl
  | 6, _ => eb_mem 228 (by decide +kernel) rfl
  | 7, _ => eb_mem 230 (by decide +kernel) rfl
  | 8, _ => eb_mem 232 (by decide +kernel) rfl
  | 9, _ => eb_mem 234 (by decide +kernel) rfl
  | 10, _ => eb_mem 236 (by decide +kernel) rfl
  | 11, _ => eb_mem 238 (by decide +kernel) rfl
  | 12, _ => eb_mem 240 (by decide +kernel) rfl
  | k + 13, h => absurd h (by omega)
theorem eb_inX4 : ∀ k, k < 3 → u_lay RX4 TX4 k ∈ eb_ts
  | 0, _ => eb_mem 151 (by decide +kernel) rfl
  | 1, _ => eb_mem 153 (by decide +kernel) rfl
  | 2, _ => eb_mem 155 (by decide +kernel) rfl
  | k + 3, h => absurd h (by omega)
theorem eb_inX6 : ∀ k, k < 6 → u_lay RX6 TX6 k ∈ eb_ts
  | 0, _ => eb_mem 258 (by decide +kernel) rfl
  | 1, _ => eb_mem 260 (by decide +kernel) rfl
  | 2, _ => eb_mem 262 (by decide +kernel) rfl
  | 3, _ => eb_mem 264 (by decide +kernel) rfl
  | 4, _ => eb_mem 266 (by decide +kernel) rfl
  | 5, _ => eb_mem 268 (by decide +kernel) rfl
  | k + 6, h => absurd h (by omega)
theorem eb_inX7 : ∀ k, k < 6 → u_lay RX7 TX7 k ∈ eb_ts
  | 0, _ => eb_mem 97 (by decide +kernel) rfl
  | 1, _ => eb_mem 99 (by decide +kernel) rfl
  | 2, _ => eb_mem 101 (by decide +kernel) rfl
  | 3, _ => eb_mem 103 (by decide +kernel) rfl
  | 4, _ => eb_mem 105 (by decide +kernel) rfl
  | 5, _ => eb_mem 107 (by decide +kernel) rfl
  | k + 6, h => absurd h (by omega)
theorem eb_inX8 : ∀ k, k < 5 → u_lay RX8 TX8 k ∈ eb_ts
  | 0, _ => eb_mem 126 (by decide +kernel) rfl
  | 1, _ => eb_mem 128 (by decide +kernel) rfl
  | 2, _ => eb_mem 130 (by decide +kernel) rfl
  | 3, _ => eb_mem 132 (by decide +kernel) rfl
  | 4, _ => eb_mem 134 (by decide +kernel) rfl
  | k + 5, h => absurd h (by omega)
theorem eb_inX9 : ∀ k, k < 9 → u_lay RX9 TX9 k ∈ eb_ts
  | 0, _ => eb_mem 353 (by decide +kernel) rfl
  | 1, _ => eb_mem 355 (by decide +kernel) rfl
  | 2, _ => eb_mem 357 (by decide +kernel) rfl
  | 3, _ => eb_mem 359 (by decide +kernel) rfl
  | 4, _ => eb_mem 361 (by decide +kernel) rfl
  | 5, _ => eb_mem 363 (by decide +kernel) rfl
  | 6, _ => eb_mem 365 (by decide +kernel) rfl
  | 7, _ => eb_mem 367 (by decide +kernel) rfl
  | 8, _ => eb_mem 369 (by decide +kernel) rfl
  | k + 9, h => absurd h (by omega)
theorem eb_inX10 : ∀ k, k < 29 → u_lay RX10 TX10 k ∈ eb_ts
  | 0, _ => eb_mem 733 (by decide +kernel) rfl
  | 1, _ => eb_mem 735 (by decide +kernel) rfl
  | 2, _ => eb_mem 737 (by decide +kernel) rfl
  | 3, _ => eb_mem 739 (by decide +kernel) rfl
  | 4, _ => eb_mem 741 (by decide +kernel) rfl
  | 5, _ => eb_mem 743 (by decide +kernel) rfl
  | 6, _ => eb_mem 745 (by decide +kernel) rfl
  | 7, _ => eb_mem 747 (by decide +kernel) rfl
  | 8, _ => eb_mem 749 (by decide +kernel) rfl
  | 9, _ => eb_mem 751 (by decide +kernel) rfl
  | 10, _ => eb_mem 753 (by decide +kernel) rfl
  | 11, _ => eb_mem 755 (by decide +kernel) rfl
  | 12, _ => eb_mem 757 (by decide +kernel) rfl
  | 13, _ => eb_mem 759 (by decide +kernel) rfl
  | 14, _ => eb_mem 761 (by decide +kernel) rfl
  | 15, _ => eb_mem 763 (by decide +kernel) rfl
  | 16, _ => eb_mem 765 (by decide +kernel) rfl
  | 17, _ => eb_mem 767 (by decide +kernel) rfl
  | 18, _ => eb_mem 769 (by decide +kernel) rfl
  | 19, _ => eb_mem 771 (by decide +kernel) rfl
  | 20, _ => eb_mem 773 (by decide +kernel) rfl
  | 21, _ => eb_mem 775 (by decide +kernel) rfl
  | 22, _ => eb_mem 777 (by decide +kernel) rfl
  | 23, _ => eb_mem 779 (by decide +kernel) rfl
  | 24, _ => eb_mem 781 (by decide +kernel) rfl
  | 25, _ => eb_mem 783 (by decide +kernel) rfl
  | 26, _ => eb_mem 785 (by decide +kernel) rfl
  | 27, _ => eb_mem 787 (by decide +kernel) rfl
  | 28, _ => eb_mem 789 (by decide +kernel) rfl
  | k + 29, h => absurd h (by omega)
theorem eb_cls {ci : Nat} {q : vw_C} (h : vwCl[ci]? = some q) : eb_cok q := by
  match ci, h with
  | 0, h => cases h; exact ⟨eb_inX0, tyX0, tyX0_ok, nmX0⟩
  | 1, h => cases h; exact ⟨eb_inX1, tyX1, tyX1_ok, nmX1⟩
  | 2, h => cases h; exact ⟨eb_inX2, tyX2, tyX2_ok, nmX2⟩
  | 3, h => cases h; exact ⟨eb_inX3, tyX3, tyX3_ok, nmX3⟩
  | 4, h => cases h; exact ⟨eb_inX4, tyX4, tyX4_ok, nmX4⟩
  | 5, h => cases h; exact ⟨eb_inX6, tyX6, tyX6_ok, nmX6⟩
  | 6, h => cases h; exact ⟨eb_inX7, tyX7, tyX7_ok, nmX7⟩
  | 7, h => cases h; exact ⟨eb_inX8, tyX8, tyX8_ok, nmX8⟩
  | 8, h => cases h; exact ⟨eb_inX9, tyX9, tyX9_ok, nmX9⟩
  | 9, h => cases h; exact ⟨eb_inX10, tyX10, tyX10_ok, nmX10⟩
  | ci + 10, h => simp [vwCl] at h
theorem eb_cls_in {ci : Nat} {q : vw_C} (h : vwCl[ci]? = some q) : ∀ w ∈ u_ws q.1 q.2.1 q.2.2, w ∈ eb_ts := by
  intro w hw
  obtain ⟨k, hk, rfl⟩ := List.mem_map.mp hw
  exact (eb_cls h).1 k (List.mem_range.mp hk)
def eb_gf (M : eb_M) (pc pc' ci k : Nat) : Prop := ∃ (idx : Nat) (q : vw_C), decode (eb_code M) pc = .ok (.getfield idx, 3) ∧ pc + 3 = pc' ∧ vwCl[ci]? = some q ∧ k < q.2.2 ∧ Cond.fieldLink (eb_y M).cls idx (q.2.1 k).1 (q.2.1 k).2.1 (q.2.1 k).2.2.1 ∈ eb_ts
def eb_pf (M : eb_M) (pc pc' ci k : Nat) (fin : Bool) (ty : FieldType) : Prop := ∃ (idx : Nat) (q : vw_C), decode (eb_code M) pc = .ok (.putfield idx, 3) ∧ pc + 3 = pc' ∧ vwCl[ci]? = some q ∧ k < q.2.2 ∧ Cond.fieldLink (eb_y M).cls idx (q.2.1 k).1 (q.2.1 k).2.1 (q.2.1 k).2.2.1 ∈ eb_ts ∧ (q.2.1 k).2.2.2 = fin ∧ parseFieldDescriptor (q.2.1 k).2.2.1 = some ty ∧ (fin = true → (eb_y M).name = "<init>" ∧ (q.2.1 k).1 = (eb_y M).cls)
def eb_fit (ty : FieldType) (v : Value) : Prop := ∀ b0 bs, narrow ty (eb_v b0 bs v) = eb_v b0 bs v ∧ fits ty (eb_v b0 bs v) = true
theorem eb_fitI {x : Int32} : eb_fit .int (.int x) := fun _ _ => ⟨rfl, rfl⟩
theorem eb_fitJ {x : Int64} : eb_fit .long (.long x) := fun _ _ => ⟨rfl, rfl⟩
theorem eb_fitZ {a : Int} (h : a = 0 ∨ a = 1) : eb_fit .boolean (.int (eb_I a)) := fun _ _ => by rcases h with rfl | rfl <;> exact ⟨rfl, rfl⟩
theorem eb_fitA {t : FieldType} {k : Nat} : eb_fit (.array t) (.ref k) := fun _ _ => ⟨rfl, rfl⟩
theorem eb_fitO {n : String} {k : Nat} : eb_fit (.object n) (.ref k) := fun _ _ => ⟨rfl, rfl⟩
section EBF
variable {M : eb_M} {E : Nat → Nat → State → Prop} {pc pc' : Nat} {ls st : List Value} {z : eb_Z} {h : eb_H} {Q : Nat → List Value → List Value → eb_Z → eb_H → Prop}
theorem V_eqI {a b : Int} (he : a = b) (k : eb_V M E pc ls (.int (eb_I b) :: st) z h Q) : eb_V M E pc ls (.int (eb_I a) :: st) z h Q := by rw [he]; exact k
theorem V_eqh {h1 : eb_H} (he : h = h1) (k : eb_V M E pc ls st z h1 Q) : eb_V M E pc ls st z h Q := by rw [he]; exact k
theorem V_getf {ci k a : Nat} {fs : List Value} {v : Value} (hd : eb_gf M pc pc' ci k) (he : h a = .inr (ci, fs)) (hv : fs[k]? = some v) (kk : eb_V M E pc' ls (v :: st) z h Q) : eb_V M E pc ls (.ref a :: st) z h Q := by
  obtain ⟨idx, q, hd, rfl, hq, hk, hw⟩ := hd
  refine eb_V.go (fun l D cs b0 bs p e R s m args below meth c Zf C hE H locs l' hP hL kk => ?_) kk
  have hne : (Sum.inr (ci, fs) : va_E) ≠ .inr (99, []) := by
    intro e; cases e; simp [vwCl] at hq
  exact va_get (C := q.1) (T := q.2.1) (N := q.2.2) (ref := (q.2.1 k).1) C.1 C.2.1 C.2.2.2.2.1 (eb_cls_in hq) C.2.2.2.1 hP.2.1.1 hP.1 a (hP.w he hne) hq k hk (C.2.2.2.2.1 _ hw) (fun _ h9 => h9) (v := eb_v b0 bs v) (by rw [List.getElem?_map, hv]; rfl) hd (kk H locs l' hP hL)
theorem V_putf {ci k a : Nat} {fin : Bool} {ty : FieldType} {fs fs' : List Value} {v : Value} (hd : eb_pf M pc pc' ci k fin ty) (he : h a = .inr (ci, fs)) (hf : eb_fit ty v) (hs : fs.set k v = fs') (hl : k < fs.length) (kk : eb_V M E pc' ls st z (eb_up h a (.inr (ci, fs'))) Q) : eb_V M E pc ls (v :: .ref a :: st) z h Q := by
  obtain ⟨idx, q, hd, rfl, hq, hk, hw, hfin, hty, hfi⟩ := hd
  obtain ⟨hc1, ty0, hc2, hc3⟩ := eb_cls hq
  refine eb_V.go (fun l D cs b0 bs p e R s m args below meth c Zf C hE H locs l' hP hL kk => ?_) kk
  have hne : (Sum.inr (ci, fs) : va_E) ≠ .inr (99, []) := by
    intro e; cases e; simp [vwCl] at hq
  have hset : ((eb_w cs b0 bs z.1 h).set a (bs + a, .inr (ci, (fs.map (eb_v b0 bs)).set k (eb_v b0 bs v)))) = (eb_w cs b0 bs z.1 h).set a (bs + a, eb_e cs b0 bs (.inr (ci, fs'))) := by
    rw [← hs]; simp [eb_e, List.map_set]
  cases fin with
  | false =>
    refine va_put (C := q.1) (T := q.2.1) (N := q.2.2) (ref := (q.2.1 k).1) (v := eb_v b0 bs v) C.1 C.2.1 C.2.2.2.2.1 (eb_cls_in hq) ty0 hc2 hc3 C.2.2.2.1 hP.2.1.1 hP.1 eb_w_D hP.2.2.1 a (hP.w he hne) hq k hk (C.2.2.2.2.1 _ hw) (fun _ h9 => h9) hfin hty (hf b0 bs).1 (hf b0 bs).2 (by simpa using hl) hd (fun H1 locs1 h1 h2 h3 => kk H1 locs1 l' ?_ hL)
    rw [hset] at h1
    exact hP.up he hne h1 h3
  | true =>
    refine va_putF (C := q.1) (T := q.2.1) (N := q.2.2) (ref := (q.2.1 k).1) (v := eb_v b0 bs v) C.1 C.2.1 C.2.2.2.2.1 (eb_cls_in hq) ty0 hc2 hc3 C.2.2.2.1 hP.2.1.1 hP.1 eb_w_D hP.2.2.1 a (hP.w he hne) hq k hk (C.2.2.2.2.1 _ hw) (fun _ h9 => h9) hfin (C.2.2.2.2.2.2.2 (hfi rfl).1) (hfi rfl).2 hty (hf b0 bs).1 (hf b0 bs).2 (by simpa using hl) hd (fun H1 locs1 h1 h2 h3 => kk H1 locs1 l' ?_ hL)
    rw [hset] at h1
    exact hP.up he hne h1 h3
end EBF
