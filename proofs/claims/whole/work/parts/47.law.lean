/-! the script -/
def eb_E (L : Nat) (xs : Nat → Int32) : Nat → Nat → State → Prop := fun b0 bs s => va_X b0 L xs s s.heap ∧ b0 < s.heap.size ∧ bs = s.heap.size
section SCR
variable {M : eb_M} {L : Nat} {xs : Nat → Int32} {E : Nat → Nat → State → Prop} {pc pc' : Nat} {ls st : List Value} {z : eb_Z} {h : eb_H} {Q : Nat → List Value → List Value → eb_Z → eb_H → Prop}
theorem V_sarg {j : Fin 4} {i : Nat} (hd : eb_at M pc pc' (.aload_n j) 1) (hi : (j : Nat) = i) (hl : ls[i]? = some (.retAddr 0)) (k : eb_V M E pc' ls (.retAddr 0 :: st) z h Q) : eb_V M E pc ls st z h Q := by
  obtain ⟨hd, rfl⟩ := hd
  refine eb_V.go (fun l D cs b0 bs p e R s m args below meth c Zf C hE H locs l' hP hL kk => ?_) k
  exact lv_aload_n C.1 C.2.1 hd hi (hL.2.2.2 i _ hl (by intro q; cases q)) (kk H locs l' hP hL)
theorem V_sald {i : Int} (hd : eb_at M pc pc' .iaload 1) (hi : 0 ≤ i ∧ i < (L : Int) ∧ L ≤ 2147483647) (k : eb_V M (eb_E L xs) pc' ls (.int (eb_I (xs i.toNat).toInt) :: st) z h Q) : eb_V M (eb_E L xs) pc ls (.int (eb_I i) :: .retAddr 0 :: st) z h Q := by
  obtain ⟨hd, rfl⟩ := hd
  refine eb_V.go (fun l D cs b0 bs p e R s m args below meth c Zf C hE H locs l' hP hL kk => ?_) k
  obtain ⟨hX, hb1, hb2⟩ := hE
  refine va_sld C.1 C.2.1 hX hb1 (show ¬ bs ≤ b0 by omega) hP.2.2.1 (eb_I_in ⟨hi.1, hi.2.1⟩ hi.2.2) hd ?_
  rw [eb_I_nat (show 0 ≤ i ∧ i ≤ 2147483647 by omega)]
  have := kk H locs l' hP hL
  rw [eb_I_of] at this
  exact this
theorem V_slen (hd : eb_at M pc pc' .arraylength 1) (k : eb_V M (eb_E L xs) pc' ls (.int (eb_I (L : Int)) :: st) z h Q) : eb_V M (eb_E L xs) pc ls (.retAddr 0 :: st) z h Q := by
  obtain ⟨hd, rfl⟩ := hd
  refine eb_V.go (fun l D cs b0 bs p e R s m args below meth c Zf C hE H locs l' hP hL kk => ?_) k
  obtain ⟨hX, hb1, hb2⟩ := hE
  refine va_slen C.1 C.2.1 hX hb1 (show ¬ bs ≤ b0 by omega) hP.2.2.1 hd ?_
  have := kk H locs l' hP hL
  rw [show eb_I (L : Int) = Int32.ofNat L from Int32.ofInt_eq_ofNat (n := L)] at this
  exact this
theorem V_same {x : Int32} {off : Int} {tgt : Nat} (hd : eb_at M pc pc' (.if_icmp .eq off) 3) (ht : (pc : Int) + off = (tgt : Int)) (k : eb_V M E tgt ls st z h Q) : eb_V M E pc ls (.int x :: .int x :: st) z h Q := by
  have := V_icmp_eq (M := M) (E := E) (a := x.toInt) (b := x.toInt) (ls := ls) (st := st) (z := z) (h := h) (Q := Q) hd ht ⟨eb_I_r x, eb_I_r x⟩ (fun _ => k) (fun q => absurd rfl q)
  rw [eb_I_of] at this
  exact this
theorem and31 (x : Int32) : ∃ v : Nat, v ≤ 31 ∧ eb_I x.toInt &&& eb_I 31 = eb_I (v : Int) := by
  have e : eb_I ((x.toBitVec.toNat : Nat) : Int) = x := by
    rw [eb_In]
    apply Int32.toBitVec_inj.mp
    show BitVec.ofNat 32 x.toBitVec.toNat = x.toBitVec
    simp
  refine ⟨x.toBitVec.toNat % 32, by omega, ?_⟩
  rw [eb_I_of, ← eb_and31, e]
end SCR
def LQ : Nat → List Value → List Value → eb_Z → eb_H → Prop := fun pc _ st z _ => pc = 876 ∧ st = [.int (eb_I 1)] ∧ z.2.1 ≤ 1000 ∧ z.2.2 ≤ 100000
section LAW
variable {L i c s : Nat} {xs : Nat → Int32} {h : eb_H} {T : TX} {ty : List Nat} {fa : Int} {past : List TX} {seed : Int} {i0 i1 : Option (TX × Int)} {sees : List (Nat × Bool)} {book : List (Int × Int)}
theorem law_feed (hi : i + 4 ≤ L) (hL : L ≤ 2048) (hcs : c ≤ 1000 ∧ s ≤ 100000) (HX : XS h (T, ty, fa, past, seed, i0, i1, sees, book)) (HM : MS h (T, ty, fa, past, seed, i0, i1, sees, book)) (HO : SOK T ty fa past seed i0 i1 sees book) (nxt : ∀ (h2 : eb_H) (S' : SS), XS h2 S' → MS h2 S' → OS S' → eb_V mL_law (eb_E L xs) 869 [.retAddr 0, .ref 0, .ref 67, .int (eb_I (i : Int))] [] (86, c, s) h2 LQ) : eb_V mL_law (eb_E L xs) 156 [.retAddr 0, .ref 0, .ref 67, .int (eb_I (i : Int))] [] (86, c, s) h LQ := by
  have rr : ∀ x : Int32, r32 x.toInt := fun x => eb_I_r x
  obtain ⟨v, S', O', PC, PM⟩ := pr_feed (n := 86) HO (rr (xs ((i : Int) + 1).toNat))
  refine V_aload_n eL_law_156 rfl rfl ?_
  refine V_sarg eL_law_157 rfl rfl ?_
  refine V_iload_n eL_law_158 rfl rfl ?_
  refine V_iconst eL_law_159 ?_
  refine V_iadd eL_law_160 ?_
  refine V_sald eL_law_161 (by omega) ?_
  refine V_cvg eL_law_162 (PC h HX) HX.1.1 rfl rfl (Nat.le_of_ble_eq_true rfl) ⟨rfl, rfl⟩ hcs (fun h1 hh => ?_)
  obtain ⟨A1, A2⟩ := hh
  show eb_V _ _ 165 _ [.int (eb_I v)] _ h1 _
  have HM1 := MS.kept HM A2
  obtain ⟨mc, M1, M2⟩ := id HM1
  refine V_aload_n eL_law_165 rfl rfl ?_
  refine V_sarg eL_law_166 rfl rfl ?_
  refine V_iload_n eL_law_167 rfl rfl ?_
  refine V_iconst eL_law_168 ?_
  refine V_iadd eL_law_169 ?_
  refine V_sald eL_law_170 (by omega) ?_
  refine V_cvg eL_law_171 (PM h1 HM1) M1 rfl rfl (Nat.le_of_ble_eq_true rfl) ⟨rfl, rfl⟩ hcs (fun h2 hh => ?_)
  obtain ⟨B1, B2⟩ := hh
  show eb_V _ _ 174 _ [.int (eb_I v), .int (eb_I v)] _ h2 _
  exact V_same (tgt := 869) eL_law_174 rfl (nxt h2 S' (XS.kept A1 B2) B1 O')
theorem law_type (hi : i + 4 ≤ L) (hL : L ≤ 2048) (hcs : c ≤ 1000 ∧ s ≤ 100000) (HX : XS h (T, ty, fa, past, seed, i0, i1, sees, book)) (HM : MS h (T, ty, fa, past, seed, i0, i1, sees, book)) (HO : SOK T ty fa past seed i0 i1 sees book) (nxt : ∀ (h2 : eb_H) (S' : SS), XS h2 S' → MS h2 S' → OS S' → eb_V mL_law (eb_E L xs) 869 [.retAddr 0, .ref 0, .ref 67, .int (eb_I (i : Int))] [] (86, c, s) h2 LQ) : eb_V mL_law (eb_E L xs) 179 [.retAddr 0, .ref 0, .ref 67, .int (eb_I (i : Int))] [] (86, c, s) h LQ := by
  have rr : ∀ x : Int32, r32 x.toInt := fun x => eb_I_r x
  obtain ⟨v, S', O', PC, PM⟩ := pr_type (n := 86) HO
  refine V_aload_n eL_law_179 rfl rfl ?_
  refine V_cvg eL_law_180 (PC h HX) HX.1.1 rfl rfl (Nat.le_of_ble_eq_true rfl) ⟨rfl, rfl⟩ hcs (fun h1 hh => ?_)
  obtain ⟨A1, A2⟩ := hh
  show eb_V _ _ 183 _ [.int (eb_I v)] _ h1 _
  have HM1 := MS.kept HM A2
  obtain ⟨mc, M1, M2⟩ := id HM1
  refine V_aload_n eL_law_183 rfl rfl ?_
  refine V_cvg eL_law_184 (PM h1 HM1) M1 rfl rfl (Nat.le_of_ble_eq_true rfl) ⟨rfl, rfl⟩ hcs (fun h2 hh => ?_)
  obtain ⟨B1, B2⟩ := hh
  show eb_V _ _ 187 _ [.int (eb_I v), .int (eb_I v)] _ h2 _
  exact V_same (tgt := 869) eL_law_187 rfl (nxt h2 S' (XS.kept A1 B2) B1 O')
theorem law_fault (hi : i + 4 ≤ L) (hL : L ≤ 2048) (hcs : c ≤ 1000 ∧ s ≤ 100000) (HX : XS h (T, ty, fa, past, seed, i0, i1, sees, book)) (HM : MS h (T, ty, fa, past, seed, i0, i1, sees, book)) (HO : SOK T ty fa past seed i0 i1 sees book) (nxt : ∀ (h2 : eb_H) (S' : SS), XS h2 S' → MS h2 S' → OS S' → eb_V mL_law (eb_E L xs) 869 [.retAddr 0, .ref 0, .ref 67, .int (eb_I (i : Int))] [] (86, c, s) h2 LQ) : eb_V mL_law (eb_E L xs) 192 [.retAddr 0, .ref 0, .ref 67, .int (eb_I (i : Int))] [] (86, c, s) h LQ := by
  have rr : ∀ x : Int32, r32 x.toInt := fun x => eb_I_r x
  obtain ⟨v, S', O', PC, PM⟩ := pr_fault (n := 86) HO
  refine V_aload_n eL_law_192 rfl rfl ?_
  refine V_cvg eL_law_193 (PC h HX) HX.1.1 rfl rfl (Nat.le_of_ble_eq_true rfl) ⟨rfl, rfl⟩ hcs (fun h1 hh => ?_)
  obtain ⟨A1, A2⟩ := hh
  show eb_V _ _ 196 _ [.int (eb_I v)] _ h1 _
  have HM1 := MS.kept HM A2
  obtain ⟨mc, M1, M2⟩ := id HM1
  refine V_aload_n eL_law_196 rfl rfl ?_
  refine V_cvg eL_law_197 (PM h1 HM1) M1 rfl rfl (Nat.le_of_ble_eq_true rfl) ⟨rfl, rfl⟩ hcs (fun h2 hh => ?_)
  obtain ⟨B1, B2⟩ := hh
  show eb_V _ _ 200 _ [.int (eb_I v), .int (eb_I v)] _ h2 _
  exact V_same (tgt := 869) eL_law_200 rfl (nxt h2 S' (XS.kept A1 B2) B1 O')
theorem law_told (hi : i + 4 ≤ L) (hL : L ≤ 2048) (hcs : c ≤ 1000 ∧ s ≤ 100000) (HX : XS h (T, ty, fa, past, seed, i0, i1, sees, book)) (HM : MS h (T, ty, fa, past, seed, i0, i1, sees, book)) (HO : SOK T ty fa past seed i0 i1 sees book) (nxt : ∀ (h2 : eb_H) (S' : SS), XS h2 S' → MS h2 S' → OS S' → eb_V mL_law (eb_E L xs) 869 [.retAddr 0, .ref 0, .ref 67, .int (eb_I (i : Int))] [] (86, c, s) h2 LQ) : eb_V mL_law (eb_E L xs) 205 [.retAddr 0, .ref 0, .ref 67, .int (eb_I (i : Int))] [] (86, c, s) h LQ := by
  have rr : ∀ x : Int32, r32 x.toInt := fun x => eb_I_r x
  obtain ⟨v, S', O', PC, PM⟩ := pr_told (n := 86) HO (rr (xs ((i : Int) + 1).toNat))
  refine V_aload_n eL_law_205 rfl rfl ?_
  refine V_sarg eL_law_206 rfl rfl ?_
  refine V_iload_n eL_law_207 rfl rfl ?_
  refine V_iconst eL_law_208 ?_
  refine V_iadd eL_law_209 ?_
  refine V_sald eL_law_210 (by omega) ?_
  refine V_cvg eL_law_211 (PC h HX) HX.1.1 rfl rfl (Nat.le_of_ble_eq_true rfl) ⟨rfl, rfl⟩ hcs (fun h1 hh => ?_)
  obtain ⟨A1, A2⟩ := hh
  show eb_V _ _ 214 _ [.int (eb_I v)] _ h1 _
  have HM1 := MS.kept HM A2
  obtain ⟨mc, M1, M2⟩ := id HM1
  refine V_aload_n eL_law_214 rfl rfl ?_
  refine V_sarg eL_law_215 rfl rfl ?_
  refine V_iload_n eL_law_216 rfl rfl ?_
  refine V_iconst eL_law_217 ?_
  refine V_iadd eL_law_218 ?_
  refine V_sald eL_law_219 (by omega) ?_
  refine V_cvg eL_law_220 (PM h1 HM1) M1 rfl rfl (Nat.le_of_ble_eq_true rfl) ⟨rfl, rfl⟩ hcs (fun h2 hh => ?_)
  obtain ⟨B1, B2⟩ := hh
  show eb_V _ _ 223 _ [.int (eb_I v), .int (eb_I v)] _ h2 _
  exact V_same (tgt := 869) eL_law_223 rfl (nxt h2 S' (XS.kept A1 B2) B1 O')
theorem law_word (hi : i + 4 ≤ L) (hL : L ≤ 2048) (hcs : c ≤ 1000 ∧ s ≤ 100000) (HX : XS h (T, ty, fa, past, seed, i0, i1, sees, book)) (HM : MS h (T, ty, fa, past, seed, i0, i1, sees, book)) (HO : SOK T ty fa past seed i0 i1 sees book) (nxt : ∀ (h2 : eb_H) (S' : SS), XS h2 S' → MS h2 S' → OS S' → eb_V mL_law (eb_E L xs) 869 [.retAddr 0, .ref 0, .ref 67, .int (eb_I (i : Int))] [] (86, c, s) h2 LQ) : eb_V mL_law (eb_E L xs) 228 [.retAddr 0, .ref 0, .ref 67, .int (eb_I (i : Int))] [] (86, c, s) h LQ := by
  have rr : ∀ x : Int32, r32 x.toInt := fun x => eb_I_r x
  obtain ⟨v, S', O', PC, PM⟩ := pr_word (n := 86) HO (rr (xs ((i : Int) + 1).toNat)) (rr (xs ((i : Int) + 2).toNat))
  refine V_aload_n eL_law_228 rfl rfl ?_
  refine V_sarg eL_law_229 rfl rfl ?_
  refine V_iload_n eL_law_230 rfl rfl ?_
  refine V_iconst eL_law_231 ?_
  refine V_iadd eL_law_232 ?_
  refine V_sald eL_law_233 (by omega) ?_
  refine V_sarg eL_law_234 rfl rfl ?_
  refine V_iload_n eL_law_235 rfl rfl ?_
  refine V_iconst eL_law_236 ?_
  refine V_iadd eL_law_237 ?_
  refine V_sald eL_law_238 (by omega) ?_
  refine V_cvg eL_law_239 (PC h HX) HX.1.1 rfl rfl (Nat.le_of_ble_eq_true rfl) ⟨rfl, rfl⟩ hcs (fun h1 hh => ?_)
  obtain ⟨A1, A2⟩ := hh
  show eb_V _ _ 242 _ [.int (eb_I v)] _ h1 _
  have HM1 := MS.kept HM A2
  obtain ⟨mc, M1, M2⟩ := id HM1
  refine V_aload_n eL_law_242 rfl rfl ?_
  refine V_sarg eL_law_243 rfl rfl ?_
  refine V_iload_n eL_law_244 rfl rfl ?_
  refine V_iconst eL_law_245 ?_
  refine V_iadd eL_law_246 ?_
  refine V_sald eL_law_247 (by omega) ?_
  refine V_sarg eL_law_248 rfl rfl ?_
  refine V_iload_n eL_law_249 rfl rfl ?_
  refine V_iconst eL_law_250 ?_
  refine V_iadd eL_law_251 ?_
  refine V_sald eL_law_252 (by omega) ?_
  refine V_cvg eL_law_253 (PM h1 HM1) M1 rfl rfl (Nat.le_of_ble_eq_true rfl) ⟨rfl, rfl⟩ hcs (fun h2 hh => ?_)
  obtain ⟨B1, B2⟩ := hh
  show eb_V _ _ 256 _ [.int (eb_I v), .int (eb_I v)] _ h2 _
  exact V_same (tgt := 869) eL_law_256 rfl (nxt h2 S' (XS.kept A1 B2) B1 O')
theorem law_end (hi : i + 4 ≤ L) (hL : L ≤ 2048) (hcs : c ≤ 1000 ∧ s ≤ 100000) (HX : XS h (T, ty, fa, past, seed, i0, i1, sees, book)) (HM : MS h (T, ty, fa, past, seed, i0, i1, sees, book)) (HO : SOK T ty fa past seed i0 i1 sees book) (nxt : ∀ (h2 : eb_H) (S' : SS), XS h2 S' → MS h2 S' → OS S' → eb_V mL_law (eb_E L xs) 869 [.retAddr 0, .ref 0, .ref 67, .int (eb_I (i : Int))] [] (86, c, s) h2 LQ) : eb_V mL_law (eb_E L xs) 261 [.retAddr 0, .ref 0, .ref 67, .int (eb_I (i : Int))] [] (86, c, s) h LQ := by
  have rr : ∀ x : Int32, r32 x.toInt := fun x => eb_I_r x
  obtain ⟨v, S', O', PC, PM⟩ := pr_end (n := 86) HO (rr (xs ((i : Int) + 1).toNat)) (rr (xs ((i : Int) + 2).toNat))
  refine V_aload_n eL_law_261 rfl rfl ?_
  refine V_sarg eL_law_262 rfl rfl ?_
  refine V_iload_n eL_law_263 rfl rfl ?_
  refine V_iconst eL_law_264 ?_
  refine V_iadd eL_law_265 ?_
  refine V_sald eL_law_266 (by omega) ?_
  refine V_sarg eL_law_267 rfl rfl ?_
  refine V_iload_n eL_law_268 rfl rfl ?_
  refine V_iconst eL_law_269 ?_
  refine V_iadd eL_law_270 ?_
  refine V_sald eL_law_271 (by omega) ?_
  refine V_cvg eL_law_272 (PC h HX) HX.1.1 rfl rfl (Nat.le_of_ble_eq_true rfl) ⟨rfl, rfl⟩ hcs (fun h1 hh => ?_)
  obtain ⟨A1, A2⟩ := hh
  show eb_V _ _ 275 _ [.int (eb_I v)] _ h1 _
  have HM1 := MS.kept HM A2
  obtain ⟨mc, M1, M2⟩ := id HM1
  refine V_aload_n eL_law_275 rfl rfl ?_
  refine V_sarg eL_law_276 rfl rfl ?_
  refine V_iload_n eL_law_277 rfl rfl ?_
  refine V_iconst eL_law_278 ?_
  refine V_iadd eL_law_279 ?_
  refine V_sald eL_law_280 (by omega) ?_
  refine V_sarg eL_law_281 rfl rfl ?_
  refine V_iload_n eL_law_282 rfl rfl ?_
  refine V_iconst eL_law_283 ?_
  refine V_iadd eL_law_284 ?_
  refine V_sald eL_law_285 (by omega) ?_
  refine V_cvg eL_law_286 (PM h1 HM1) M1 rfl rfl (Nat.le_of_ble_eq_true rfl) ⟨rfl, rfl⟩ hcs (fun h2 hh => ?_)
  obtain ⟨B1, B2⟩ := hh
  show eb_V _ _ 289 _ [.int (eb_I v), .int (eb_I v)] _ h2 _
  exact V_same (tgt := 869) eL_law_289 rfl (nxt h2 S' (XS.kept A1 B2) B1 O')
theorem law_line (hi : i + 4 ≤ L) (hL : L ≤ 2048) (hcs : c ≤ 1000 ∧ s ≤ 100000) (HX : XS h (T, ty, fa, past, seed, i0, i1, sees, book)) (HM : MS h (T, ty, fa, past, seed, i0, i1, sees, book)) (HO : SOK T ty fa past seed i0 i1 sees book) (nxt : ∀ (h2 : eb_H) (S' : SS), XS h2 S' → MS h2 S' → OS S' → eb_V mL_law (eb_E L xs) 869 [.retAddr 0, .ref 0, .ref 67, .int (eb_I (i : Int))] [] (86, c, s) h2 LQ) : eb_V mL_law (eb_E L xs) 294 [.retAddr 0, .ref 0, .ref 67, .int (eb_I (i : Int))] [] (86, c, s) h LQ := by
  have rr : ∀ x : Int32, r32 x.toInt := fun x => eb_I_r x
  obtain ⟨v, S', O', PC, PM⟩ := pr_line (n := 86) HO (rr (xs ((i : Int) + 1).toNat)) (rr (xs ((i : Int) + 2).toNat))
  refine V_aload_n eL_law_294 rfl rfl ?_
  refine V_sarg eL_law_295 rfl rfl ?_
  refine V_iload_n eL_law_296 rfl rfl ?_
  refine V_iconst eL_law_297 ?_
  refine V_iadd eL_law_298 ?_
  refine V_sald eL_law_299 (by omega) ?_
  refine V_sarg eL_law_300 rfl rfl ?_
  refine V_iload_n eL_law_301 rfl rfl ?_
  refine V_iconst eL_law_302 ?_
  refine V_iadd eL_law_303 ?_
  refine V_sald eL_law_304 (by omega) ?_
  refine V_cvg eL_law_305 (PC h HX) HX.1.1 rfl rfl (Nat.le_of_ble_eq_true rfl) ⟨rfl, rfl⟩ hcs (fun h1 hh => ?_)
  obtain ⟨A1, A2⟩ := hh
  show eb_V _ _ 308 _ [.int (eb_I v)] _ h1 _
  have HM1 := MS.kept HM A2
  obtain ⟨mc, M1, M2⟩ := id HM1
  refine V_aload_n eL_law_308 rfl rfl ?_
  refine V_sarg eL_law_309 rfl rfl ?_
  refine V_iload_n eL_law_310 rfl rfl ?_
  refine V_iconst eL_law_311 ?_
  refine V_iadd eL_law_312 ?_
  refine V_sald eL_law_313 (by omega) ?_
  refine V_sarg eL_law_314 rfl rfl ?_
  refine V_iload_n eL_law_315 rfl rfl ?_
  refine V_iconst eL_law_316 ?_
  refine V_iadd eL_law_317 ?_
  refine V_sald eL_law_318 (by omega) ?_
  refine V_cvg eL_law_319 (PM h1 HM1) M1 rfl rfl (Nat.le_of_ble_eq_true rfl) ⟨rfl, rfl⟩ hcs (fun h2 hh => ?_)
  obtain ⟨B1, B2⟩ := hh
  show eb_V _ _ 322 _ [.int (eb_I v), .int (eb_I v)] _ h2 _
  exact V_same (tgt := 869) eL_law_322 rfl (nxt h2 S' (XS.kept A1 B2) B1 O')
theorem law_change (hi : i + 4 ≤ L) (hL : L ≤ 2048) (hcs : c ≤ 1000 ∧ s ≤ 100000) (HX : XS h (T, ty, fa, past, seed, i0, i1, sees, book)) (HM : MS h (T, ty, fa, past, seed, i0, i1, sees, book)) (HO : SOK T ty fa past seed i0 i1 sees book) (nxt : ∀ (h2 : eb_H) (S' : SS), XS h2 S' → MS h2 S' → OS S' → eb_V mL_law (eb_E L xs) 869 [.retAddr 0, .ref 0, .ref 67, .int (eb_I (i : Int))] [] (86, c, s) h2 LQ) : eb_V mL_law (eb_E L xs) 327 [.retAddr 0, .ref 0, .ref 67, .int (eb_I (i : Int))] [] (86, c, s) h LQ := by
  have rr : ∀ x : Int32, r32 x.toInt := fun x => eb_I_r x
  obtain ⟨v, S', O', PC, PM⟩ := pr_change (n := 86) HO (rr (xs ((i : Int) + 1).toNat))
  refine V_aload_n eL_law_327 rfl rfl ?_
  refine V_sarg eL_law_328 rfl rfl ?_
  refine V_iload_n eL_law_329 rfl rfl ?_
  refine V_iconst eL_law_330 ?_
  refine V_iadd eL_law_331 ?_
  refine V_sald eL_law_332 (by omega) ?_
  refine V_cvg eL_law_333 (PC h HX) HX.1.1 rfl rfl (Nat.le_of_ble_eq_true rfl) ⟨rfl, rfl⟩ hcs (fun h1 hh => ?_)
  obtain ⟨A1, A2⟩ := hh
  show eb_V _ _ 336 _ [.int (eb_I v)] _ h1 _
  have HM1 := MS.kept HM A2
  obtain ⟨mc, M1, M2⟩ := id HM1
  refine V_aload_n eL_law_336 rfl rfl ?_
  refine V_sarg eL_law_337 rfl rfl ?_
  refine V_iload_n eL_law_338 rfl rfl ?_
  refine V_iconst eL_law_339 ?_
  refine V_iadd eL_law_340 ?_
  refine V_sald eL_law_341 (by omega) ?_
  refine V_cvg eL_law_342 (PM h1 HM1) M1 rfl rfl (Nat.le_of_ble_eq_true rfl) ⟨rfl, rfl⟩ hcs (fun h2 hh => ?_)
  obtain ⟨B1, B2⟩ := hh
  show eb_V _ _ 345 _ [.int (eb_I v), .int (eb_I v)] _ h2 _
  exact V_same (tgt := 869) eL_law_345 rfl (nxt h2 S' (XS.kept A1 B2) B1 O')
theorem law_insert (hi : i + 4 ≤ L) (hL : L ≤ 2048) (hcs : c ≤ 1000 ∧ s ≤ 100000) (HX : XS h (T, ty, fa, past, seed, i0, i1, sees, book)) (HM : MS h (T, ty, fa, past, seed, i0, i1, sees, book)) (HO : SOK T ty fa past seed i0 i1 sees book) (nxt : ∀ (h2 : eb_H) (S' : SS), XS h2 S' → MS h2 S' → OS S' → eb_V mL_law (eb_E L xs) 869 [.retAddr 0, .ref 0, .ref 67, .int (eb_I (i : Int))] [] (86, c, s) h2 LQ) : eb_V mL_law (eb_E L xs) 350 [.retAddr 0, .ref 0, .ref 67, .int (eb_I (i : Int))] [] (86, c, s) h LQ := by
  have rr : ∀ x : Int32, r32 x.toInt := fun x => eb_I_r x
  obtain ⟨v, S', O', PC, PM⟩ := pr_insert (n := 86) HO (rr (xs ((i : Int) + 1).toNat))
  refine V_aload_n eL_law_350 rfl rfl ?_
  refine V_sarg eL_law_351 rfl rfl ?_
  refine V_iload_n eL_law_352 rfl rfl ?_
  refine V_iconst eL_law_353 ?_
  refine V_iadd eL_law_354 ?_
  refine V_sald eL_law_355 (by omega) ?_
  refine V_cvg eL_law_356 (PC h HX) HX.1.1 rfl rfl (Nat.le_of_ble_eq_true rfl) ⟨rfl, rfl⟩ hcs (fun h1 hh => ?_)
  obtain ⟨A1, A2⟩ := hh
  show eb_V _ _ 359 _ [.int (eb_I v)] _ h1 _
  have HM1 := MS.kept HM A2
  obtain ⟨mc, M1, M2⟩ := id HM1
  refine V_aload_n eL_law_359 rfl rfl ?_
  refine V_sarg eL_law_360 rfl rfl ?_
  refine V_iload_n eL_law_361 rfl rfl ?_
  refine V_iconst eL_law_362 ?_
  refine V_iadd eL_law_363 ?_
  refine V_sald eL_law_364 (by omega) ?_
  refine V_cvg eL_law_365 (PM h1 HM1) M1 rfl rfl (Nat.le_of_ble_eq_true rfl) ⟨rfl, rfl⟩ hcs (fun h2 hh => ?_)
  obtain ⟨B1, B2⟩ := hh
  show eb_V _ _ 368 _ [.int (eb_I v), .int (eb_I v)] _ h2 _
  exact V_same (tgt := 869) eL_law_368 rfl (nxt h2 S' (XS.kept A1 B2) B1 O')
theorem law_take (hi : i + 4 ≤ L) (hL : L ≤ 2048) (hcs : c ≤ 1000 ∧ s ≤ 100000) (HX : XS h (T, ty, fa, past, seed, i0, i1, sees, book)) (HM : MS h (T, ty, fa, past, seed, i0, i1, sees, book)) (HO : SOK T ty fa past seed i0 i1 sees book) (nxt : ∀ (h2 : eb_H) (S' : SS), XS h2 S' → MS h2 S' → OS S' → eb_V mL_law (eb_E L xs) 869 [.retAddr 0, .ref 0, .ref 67, .int (eb_I (i : Int))] [] (86, c, s) h2 LQ) : eb_V mL_law (eb_E L xs) 373 [.retAddr 0, .ref 0, .ref 67, .int (eb_I (i : Int))] [] (86, c, s) h LQ := by
  have rr : ∀ x : Int32, r32 x.toInt := fun x => eb_I_r x
  obtain ⟨v, S', O', PC, PM⟩ := pr_take (n := 86) HO (rr (xs ((i : Int) + 1).toNat))
  refine V_aload_n eL_law_373 rfl rfl ?_
  refine V_sarg eL_law_374 rfl rfl ?_
  refine V_iload_n eL_law_375 rfl rfl ?_
  refine V_iconst eL_law_376 ?_
  refine V_iadd eL_law_377 ?_
  refine V_sald eL_law_378 (by omega) ?_
  refine V_cvg eL_law_379 (PC h HX) HX.1.1 rfl rfl (Nat.le_of_ble_eq_true rfl) ⟨rfl, rfl⟩ hcs (fun h1 hh => ?_)
  obtain ⟨A1, A2⟩ := hh
  show eb_V _ _ 382 _ [.int (eb_I v)] _ h1 _
  have HM1 := MS.kept HM A2
  obtain ⟨mc, M1, M2⟩ := id HM1
  refine V_aload_n eL_law_382 rfl rfl ?_
  refine V_sarg eL_law_383 rfl rfl ?_
  refine V_iload_n eL_law_384 rfl rfl ?_
  refine V_iconst eL_law_385 ?_
  refine V_iadd eL_law_386 ?_
  refine V_sald eL_law_387 (by omega) ?_
  refine V_cvg eL_law_388 (PM h1 HM1) M1 rfl rfl (Nat.le_of_ble_eq_true rfl) ⟨rfl, rfl⟩ hcs (fun h2 hh => ?_)
  obtain ⟨B1, B2⟩ := hh
  show eb_V _ _ 391 _ [.int (eb_I v), .int (eb_I v)] _ h2 _
  exact V_same (tgt := 869) eL_law_391 rfl (nxt h2 S' (XS.kept A1 B2) B1 O')
theorem law_measure (hi : i + 4 ≤ L) (hL : L ≤ 2048) (hcs : c ≤ 1000 ∧ s ≤ 100000) (HX : XS h (T, ty, fa, past, seed, i0, i1, sees, book)) (HM : MS h (T, ty, fa, past, seed, i0, i1, sees, book)) (HO : SOK T ty fa past seed i0 i1 sees book) (nxt : ∀ (h2 : eb_H) (S' : SS), XS h2 S' → MS h2 S' → OS S' → eb_V mL_law (eb_E L xs) 869 [.retAddr 0, .ref 0, .ref 67, .int (eb_I (i : Int))] [] (86, c, s) h2 LQ) : eb_V mL_law (eb_E L xs) 396 [.retAddr 0, .ref 0, .ref 67, .int (eb_I (i : Int))] [] (86, c, s) h LQ := by
  have rr : ∀ x : Int32, r32 x.toInt := fun x => eb_I_r x
  obtain ⟨v, S', O', PC, PM⟩ := pr_measure (n := 86) HO (rr (xs ((i : Int) + 1).toNat))
  refine V_aload_n eL_law_396 rfl rfl ?_
  refine V_sarg eL_law_397 rfl rfl ?_
  refine V_iload_n eL_law_398 rfl rfl ?_
  refine V_iconst eL_law_399 ?_
  refine V_iadd eL_law_400 ?_
  refine V_sald eL_law_401 (by omega) ?_
  refine V_cvg eL_law_402 (PC h HX) HX.1.1 rfl rfl (Nat.le_of_ble_eq_true rfl) ⟨rfl, rfl⟩ hcs (fun h1 hh => ?_)
  obtain ⟨A1, A2⟩ := hh
  show eb_V _ _ 405 _ [.int (eb_I v)] _ h1 _
  have HM1 := MS.kept HM A2
  obtain ⟨mc, M1, M2⟩ := id HM1
  refine V_aload_n eL_law_405 rfl rfl ?_
  refine V_sarg eL_law_406 rfl rfl ?_
  refine V_iload_n eL_law_407 rfl rfl ?_
  refine V_iconst eL_law_408 ?_
  refine V_iadd eL_law_409 ?_
  refine V_sald eL_law_410 (by omega) ?_
  refine V_cvg eL_law_411 (PM h1 HM1) M1 rfl rfl (Nat.le_of_ble_eq_true rfl) ⟨rfl, rfl⟩ hcs (fun h2 hh => ?_)
  obtain ⟨B1, B2⟩ := hh
  show eb_V _ _ 414 _ [.int (eb_I v), .int (eb_I v)] _ h2 _
  exact V_same (tgt := 869) eL_law_414 rfl (nxt h2 S' (XS.kept A1 B2) B1 O')
theorem law_rule (hi : i + 4 ≤ L) (hL : L ≤ 2048) (hcs : c ≤ 1000 ∧ s ≤ 100000) (HX : XS h (T, ty, fa, past, seed, i0, i1, sees, book)) (HM : MS h (T, ty, fa, past, seed, i0, i1, sees, book)) (HO : SOK T ty fa past seed i0 i1 sees book) (nxt : ∀ (h2 : eb_H) (S' : SS), XS h2 S' → MS h2 S' → OS S' → eb_V mL_law (eb_E L xs) 869 [.retAddr 0, .ref 0, .ref 67, .int (eb_I (i : Int))] [] (86, c, s) h2 LQ) : eb_V mL_law (eb_E L xs) 419 [.retAddr 0, .ref 0, .ref 67, .int (eb_I (i : Int))] [] (86, c, s) h LQ := by
  have rr : ∀ x : Int32, r32 x.toInt := fun x => eb_I_r x
  obtain ⟨v, S', O', PC, PM⟩ := pr_rule (n := 86) HO (rr (xs ((i : Int) + 1).toNat))
  refine V_aload_n eL_law_419 rfl rfl ?_
  refine V_sarg eL_law_420 rfl rfl ?_
  refine V_iload_n eL_law_421 rfl rfl ?_
  refine V_iconst eL_law_422 ?_
  refine V_iadd eL_law_423 ?_
  refine V_sald eL_law_424 (by omega) ?_
  refine V_cvg eL_law_425 (PC h HX) HX.1.1 rfl rfl (Nat.le_of_ble_eq_true rfl) ⟨rfl, rfl⟩ hcs (fun h1 hh => ?_)
  obtain ⟨A1, A2⟩ := hh
  show eb_V _ _ 428 _ [.int (eb_I v)] _ h1 _
  have HM1 := MS.kept HM A2
  obtain ⟨mc, M1, M2⟩ := id HM1
  refine V_aload_n eL_law_428 rfl rfl ?_
  refine V_sarg eL_law_429 rfl rfl ?_
  refine V_iload_n eL_law_430 rfl rfl ?_
  refine V_iconst eL_law_431 ?_
  refine V_iadd eL_law_432 ?_
  refine V_sald eL_law_433 (by omega) ?_
  refine V_cvg eL_law_434 (PM h1 HM1) M1 rfl rfl (Nat.le_of_ble_eq_true rfl) ⟨rfl, rfl⟩ hcs (fun h2 hh => ?_)
  obtain ⟨B1, B2⟩ := hh
  show eb_V _ _ 437 _ [.int (eb_I v), .int (eb_I v)] _ h2 _
  exact V_same (tgt := 869) eL_law_437 rfl (nxt h2 S' (XS.kept A1 B2) B1 O')
theorem law_fee (hi : i + 4 ≤ L) (hL : L ≤ 2048) (hcs : c ≤ 1000 ∧ s ≤ 100000) (HX : XS h (T, ty, fa, past, seed, i0, i1, sees, book)) (HM : MS h (T, ty, fa, past, seed, i0, i1, sees, book)) (HO : SOK T ty fa past seed i0 i1 sees book) (nxt : ∀ (h2 : eb_H) (S' : SS), XS h2 S' → MS h2 S' → OS S' → eb_V mL_law (eb_E L xs) 869 [.retAddr 0, .ref 0, .ref 67, .int (eb_I (i : Int))] [] (86, c, s) h2 LQ) : eb_V mL_law (eb_E L xs) 442 [.retAddr 0, .ref 0, .ref 67, .int (eb_I (i : Int))] [] (86, c, s) h LQ := by
  have rr : ∀ x : Int32, r32 x.toInt := fun x => eb_I_r x
  obtain ⟨v, S', O', PC, PM⟩ := pr_fee (n := 86) HO (rr (xs ((i : Int) + 1).toNat))
  refine V_aload_n eL_law_442 rfl rfl ?_
  refine V_sarg eL_law_443 rfl rfl ?_
  refine V_iload_n eL_law_444 rfl rfl ?_
  refine V_iconst eL_law_445 ?_
  refine V_iadd eL_law_446 ?_
  refine V_sald eL_law_447 (by omega) ?_
  refine V_cvg eL_law_448 (PC h HX) HX.1.1 rfl rfl (Nat.le_of_ble_eq_true rfl) ⟨rfl, rfl⟩ hcs (fun h1 hh => ?_)
  obtain ⟨A1, A2⟩ := hh
  show eb_V _ _ 451 _ [.int (eb_I v)] _ h1 _
  have HM1 := MS.kept HM A2
  obtain ⟨mc, M1, M2⟩ := id HM1
  refine V_aload_n eL_law_451 rfl rfl ?_
  refine V_sarg eL_law_452 rfl rfl ?_
  refine V_iload_n eL_law_453 rfl rfl ?_
  refine V_iconst eL_law_454 ?_
  refine V_iadd eL_law_455 ?_
  refine V_sald eL_law_456 (by omega) ?_
  refine V_cvg eL_law_457 (PM h1 HM1) M1 rfl rfl (Nat.le_of_ble_eq_true rfl) ⟨rfl, rfl⟩ hcs (fun h2 hh => ?_)
  obtain ⟨B1, B2⟩ := hh
  show eb_V _ _ 460 _ [.int (eb_I v), .int (eb_I v)] _ h2 _
  exact V_same (tgt := 869) eL_law_460 rfl (nxt h2 S' (XS.kept A1 B2) B1 O')
theorem law_free (hi : i + 4 ≤ L) (hL : L ≤ 2048) (hcs : c ≤ 1000 ∧ s ≤ 100000) (HX : XS h (T, ty, fa, past, seed, i0, i1, sees, book)) (HM : MS h (T, ty, fa, past, seed, i0, i1, sees, book)) (HO : SOK T ty fa past seed i0 i1 sees book) (nxt : ∀ (h2 : eb_H) (S' : SS), XS h2 S' → MS h2 S' → OS S' → eb_V mL_law (eb_E L xs) 869 [.retAddr 0, .ref 0, .ref 67, .int (eb_I (i : Int))] [] (86, c, s) h2 LQ) : eb_V mL_law (eb_E L xs) 465 [.retAddr 0, .ref 0, .ref 67, .int (eb_I (i : Int))] [] (86, c, s) h LQ := by
  have rr : ∀ x : Int32, r32 x.toInt := fun x => eb_I_r x
  by_cases y : (xs ((i : Int) + 1).toNat).toInt = 0
  · obtain ⟨v, S', O', PC, PM⟩ := pr_free (n := 86) (v := 0) HO (by omega)
    refine V_aload_n eL_law_465 rfl rfl ?_
    refine V_sarg eL_law_466 rfl rfl ?_
    refine V_iload_n eL_law_467 rfl rfl ?_
    refine V_iconst eL_law_468 ?_
    refine V_iadd eL_law_469 ?_
    refine V_sald eL_law_470 (by omega) ?_
    refine V_if_eq (tgt := 478) eL_law_471 rfl (rr _) (fun c_471 => ?_) (fun c_471 => ?_)
    · refine V_iconst eL_law_478 ?_
      refine V_cvg eL_law_479 (PC h HX) HX.1.1 rfl rfl (Nat.le_of_ble_eq_true rfl) ⟨rfl, rfl⟩ hcs (fun h1 hh => ?_)
      obtain ⟨A1, A2⟩ := hh
      show eb_V _ _ 482 _ [.int (eb_I v)] _ h1 _
      have HM1 := MS.kept HM A2
      obtain ⟨mc, M1, M2⟩ := id HM1
      refine V_aload_n eL_law_482 rfl rfl ?_
      refine V_sarg eL_law_483 rfl rfl ?_
      refine V_iload_n eL_law_484 rfl rfl ?_
      refine V_iconst eL_law_485 ?_
      refine V_iadd eL_law_486 ?_
      refine V_sald eL_law_487 (by omega) ?_
      refine V_if_eq (tgt := 495) eL_law_488 rfl (rr _) (fun c_488 => ?_) (fun c_488 => ?_)
      · refine V_iconst eL_law_495 ?_
        refine V_cvg eL_law_496 (PM h1 HM1) M1 rfl rfl (Nat.le_of_ble_eq_true rfl) ⟨rfl, rfl⟩ hcs (fun h2 hh => ?_)
        obtain ⟨B1, B2⟩ := hh
        show eb_V _ _ 499 _ [.int (eb_I v), .int (eb_I v)] _ h2 _
        exact V_same (tgt := 869) eL_law_499 rfl (nxt h2 S' (XS.kept A1 B2) B1 O')
      · exact absurd y c_488
    · exact absurd y c_471
  · obtain ⟨v, S', O', PC, PM⟩ := pr_free (n := 86) (v := 1) HO (by omega)
    refine V_aload_n eL_law_465 rfl rfl ?_
    refine V_sarg eL_law_466 rfl rfl ?_
    refine V_iload_n eL_law_467 rfl rfl ?_
    refine V_iconst eL_law_468 ?_
    refine V_iadd eL_law_469 ?_
    refine V_sald eL_law_470 (by omega) ?_
    refine V_if_eq (tgt := 478) eL_law_471 rfl (rr _) (fun c_471 => ?_) (fun c_471 => ?_)
    · exact absurd c_471 y
    · refine V_iconst eL_law_474 ?_
      refine V_goto (tgt := 479) eL_law_475 rfl ?_
      refine V_cvg eL_law_479 (PC h HX) HX.1.1 rfl rfl (Nat.le_of_ble_eq_true rfl) ⟨rfl, rfl⟩ hcs (fun h1 hh => ?_)
      obtain ⟨A1, A2⟩ := hh
      show eb_V _ _ 482 _ [.int (eb_I v)] _ h1 _
      have HM1 := MS.kept HM A2
      obtain ⟨mc, M1, M2⟩ := id HM1
      refine V_aload_n eL_law_482 rfl rfl ?_
      refine V_sarg eL_law_483 rfl rfl ?_
      refine V_iload_n eL_law_484 rfl rfl ?_
      refine V_iconst eL_law_485 ?_
      refine V_iadd eL_law_486 ?_
      refine V_sald eL_law_487 (by omega) ?_
      refine V_if_eq (tgt := 495) eL_law_488 rfl (rr _) (fun c_488 => ?_) (fun c_488 => ?_)
      · exact absurd c_488 y
      · refine V_iconst eL_law_491 ?_
        refine V_goto (tgt := 496) eL_law_492 rfl ?_
        refine V_cvg eL_law_496 (PM h1 HM1) M1 rfl rfl (Nat.le_of_ble_eq_true rfl) ⟨rfl, rfl⟩ hcs (fun h2 hh => ?_)
        obtain ⟨B1, B2⟩ := hh
        show eb_V _ _ 499 _ [.int (eb_I v), .int (eb_I v)] _ h2 _
        exact V_same (tgt := 869) eL_law_499 rfl (nxt h2 S' (XS.kept A1 B2) B1 O')
theorem law_drift (hi : i + 4 ≤ L) (hL : L ≤ 2048) (hcs : c ≤ 1000 ∧ s ≤ 100000) (HX : XS h (T, ty, fa, past, seed, i0, i1, sees, book)) (HM : MS h (T, ty, fa, past, seed, i0, i1, sees, book)) (HO : SOK T ty fa past seed i0 i1 sees book) (nxt : ∀ (h2 : eb_H) (S' : SS), XS h2 S' → MS h2 S' → OS S' → eb_V mL_law (eb_E L xs) 869 [.retAddr 0, .ref 0, .ref 67, .int (eb_I (i : Int))] [] (86, c, s) h2 LQ) : eb_V mL_law (eb_E L xs) 504 [.retAddr 0, .ref 0, .ref 67, .int (eb_I (i : Int))] [] (86, c, s) h LQ := by
  have rr : ∀ x : Int32, r32 x.toInt := fun x => eb_I_r x
  obtain ⟨v, S', O', PC, PM⟩ := pr_drift (n := 86) HO (rr (xs ((i : Int) + 1).toNat))
  refine V_aload_n eL_law_504 rfl rfl ?_
  refine V_sarg eL_law_505 rfl rfl ?_
  refine V_iload_n eL_law_506 rfl rfl ?_
  refine V_iconst eL_law_507 ?_
  refine V_iadd eL_law_508 ?_
  refine V_sald eL_law_509 (by omega) ?_
  refine V_cvg eL_law_510 (PC h HX) HX.1.1 rfl rfl (Nat.le_of_ble_eq_true rfl) ⟨rfl, rfl⟩ hcs (fun h1 hh => ?_)
  obtain ⟨A1, A2⟩ := hh
  show eb_V _ _ 513 _ [.int (eb_I v)] _ h1 _
  have HM1 := MS.kept HM A2
  obtain ⟨mc, M1, M2⟩ := id HM1
  refine V_aload_n eL_law_513 rfl rfl ?_
  refine V_sarg eL_law_514 rfl rfl ?_
  refine V_iload_n eL_law_515 rfl rfl ?_
  refine V_iconst eL_law_516 ?_
  refine V_iadd eL_law_517 ?_
  refine V_sald eL_law_518 (by omega) ?_
  refine V_cvg eL_law_519 (PM h1 HM1) M1 rfl rfl (Nat.le_of_ble_eq_true rfl) ⟨rfl, rfl⟩ hcs (fun h2 hh => ?_)
  obtain ⟨B1, B2⟩ := hh
  show eb_V _ _ 522 _ [.int (eb_I v), .int (eb_I v)] _ h2 _
  exact V_same (tgt := 869) eL_law_522 rfl (nxt h2 S' (XS.kept A1 B2) B1 O')
theorem law_undo (hi : i + 4 ≤ L) (hL : L ≤ 2048) (hcs : c ≤ 1000 ∧ s ≤ 100000) (HX : XS h (T, ty, fa, past, seed, i0, i1, sees, book)) (HM : MS h (T, ty, fa, past, seed, i0, i1, sees, book)) (HO : SOK T ty fa past seed i0 i1 sees book) (nxt : ∀ (h2 : eb_H) (S' : SS), XS h2 S' → MS h2 S' → OS S' → eb_V mL_law (eb_E L xs) 869 [.retAddr 0, .ref 0, .ref 67, .int (eb_I (i : Int))] [] (86, c, s) h2 LQ) : eb_V mL_law (eb_E L xs) 527 [.retAddr 0, .ref 0, .ref 67, .int (eb_I (i : Int))] [] (86, c, s) h LQ := by
  have rr : ∀ x : Int32, r32 x.toInt := fun x => eb_I_r x
  obtain ⟨v, S', O', PC, PM⟩ := pr_undo (n := 86) HO (rr (xs ((i : Int) + 1).toNat))
  refine V_aload_n eL_law_527 rfl rfl ?_
  refine V_sarg eL_law_528 rfl rfl ?_
  refine V_iload_n eL_law_529 rfl rfl ?_
  refine V_iconst eL_law_530 ?_
  refine V_iadd eL_law_531 ?_
  refine V_sald eL_law_532 (by omega) ?_
  refine V_cvg eL_law_533 (PC h HX) HX.1.1 rfl rfl (Nat.le_of_ble_eq_true rfl) ⟨rfl, rfl⟩ hcs (fun h1 hh => ?_)
  obtain ⟨A1, A2⟩ := hh
  show eb_V _ _ 536 _ [.int (eb_I v)] _ h1 _
  have HM1 := MS.kept HM A2
  obtain ⟨mc, M1, M2⟩ := id HM1
  refine V_aload_n eL_law_536 rfl rfl ?_
  refine V_sarg eL_law_537 rfl rfl ?_
  refine V_iload_n eL_law_538 rfl rfl ?_
  refine V_iconst eL_law_539 ?_
  refine V_iadd eL_law_540 ?_
  refine V_sald eL_law_541 (by omega) ?_
  refine V_cvg eL_law_542 (PM h1 HM1) M1 rfl rfl (Nat.le_of_ble_eq_true rfl) ⟨rfl, rfl⟩ hcs (fun h2 hh => ?_)
  obtain ⟨B1, B2⟩ := hh
  show eb_V _ _ 545 _ [.int (eb_I v), .int (eb_I v)] _ h2 _
  exact V_same (tgt := 869) eL_law_545 rfl (nxt h2 S' (XS.kept A1 B2) B1 O')
theorem law_cost (hi : i + 4 ≤ L) (hL : L ≤ 2048) (hcs : c ≤ 1000 ∧ s ≤ 100000) (HX : XS h (T, ty, fa, past, seed, i0, i1, sees, book)) (HM : MS h (T, ty, fa, past, seed, i0, i1, sees, book)) (HO : SOK T ty fa past seed i0 i1 sees book) (nxt : ∀ (h2 : eb_H) (S' : SS), XS h2 S' → MS h2 S' → OS S' → eb_V mL_law (eb_E L xs) 869 [.retAddr 0, .ref 0, .ref 67, .int (eb_I (i : Int))] [] (86, c, s) h2 LQ) : eb_V mL_law (eb_E L xs) 550 [.retAddr 0, .ref 0, .ref 67, .int (eb_I (i : Int))] [] (86, c, s) h LQ := by
  have rr : ∀ x : Int32, r32 x.toInt := fun x => eb_I_r x
  obtain ⟨v, S', O', PC, PM⟩ := pr_cost (n := 86) HO (rr (xs ((i : Int) + 1).toNat)) (rr (xs ((i : Int) + 2).toNat))
  refine V_aload_n eL_law_550 rfl rfl ?_
  refine V_sarg eL_law_551 rfl rfl ?_
  refine V_iload_n eL_law_552 rfl rfl ?_
  refine V_iconst eL_law_553 ?_
  refine V_iadd eL_law_554 ?_
  refine V_sald eL_law_555 (by omega) ?_
  refine V_sarg eL_law_556 rfl rfl ?_
  refine V_iload_n eL_law_557 rfl rfl ?_
  refine V_iconst eL_law_558 ?_
  refine V_iadd eL_law_559 ?_
  refine V_sald eL_law_560 (by omega) ?_
  refine V_cvg eL_law_561 (PC h HX) HX.1.1 rfl rfl (Nat.le_of_ble_eq_true rfl) ⟨rfl, rfl⟩ hcs (fun h1 hh => ?_)
  obtain ⟨A1, A2⟩ := hh
  show eb_V _ _ 564 _ [.int (eb_I v)] _ h1 _
  have HM1 := MS.kept HM A2
  obtain ⟨mc, M1, M2⟩ := id HM1
  refine V_aload_n eL_law_564 rfl rfl ?_
  refine V_sarg eL_law_565 rfl rfl ?_
  refine V_iload_n eL_law_566 rfl rfl ?_
  refine V_iconst eL_law_567 ?_
  refine V_iadd eL_law_568 ?_
  refine V_sald eL_law_569 (by omega) ?_
  refine V_sarg eL_law_570 rfl rfl ?_
  refine V_iload_n eL_law_571 rfl rfl ?_
  refine V_iconst eL_law_572 ?_
  refine V_iadd eL_law_573 ?_
  refine V_sald eL_law_574 (by omega) ?_
  refine V_cvg eL_law_575 (PM h1 HM1) M1 rfl rfl (Nat.le_of_ble_eq_true rfl) ⟨rfl, rfl⟩ hcs (fun h2 hh => ?_)
  obtain ⟨B1, B2⟩ := hh
  show eb_V _ _ 578 _ [.int (eb_I v), .int (eb_I v)] _ h2 _
  exact V_same (tgt := 869) eL_law_578 rfl (nxt h2 S' (XS.kept A1 B2) B1 O')
theorem law_first (hi : i + 4 ≤ L) (hL : L ≤ 2048) (hcs : c ≤ 1000 ∧ s ≤ 100000) (HX : XS h (T, ty, fa, past, seed, i0, i1, sees, book)) (HM : MS h (T, ty, fa, past, seed, i0, i1, sees, book)) (HO : SOK T ty fa past seed i0 i1 sees book) (nxt : ∀ (h2 : eb_H) (S' : SS), XS h2 S' → MS h2 S' → OS S' → eb_V mL_law (eb_E L xs) 869 [.retAddr 0, .ref 0, .ref 67, .int (eb_I (i : Int))] [] (86, c, s) h2 LQ) : eb_V mL_law (eb_E L xs) 583 [.retAddr 0, .ref 0, .ref 67, .int (eb_I (i : Int))] [] (86, c, s) h LQ := by
  have rr : ∀ x : Int32, r32 x.toInt := fun x => eb_I_r x
  obtain ⟨v, S', O', PC, PM⟩ := pr_first (n := 86) HO (rr (xs ((i : Int) + 1).toNat))
  refine V_aload_n eL_law_583 rfl rfl ?_
  refine V_sarg eL_law_584 rfl rfl ?_
  refine V_iload_n eL_law_585 rfl rfl ?_
  refine V_iconst eL_law_586 ?_
  refine V_iadd eL_law_587 ?_
  refine V_sald eL_law_588 (by omega) ?_
  refine V_cvg eL_law_589 (PC h HX) HX.1.1 rfl rfl (Nat.le_of_ble_eq_true rfl) ⟨rfl, rfl⟩ hcs (fun h1 hh => ?_)
  obtain ⟨A1, A2⟩ := hh
  show eb_V _ _ 592 _ [.int (eb_I v)] _ h1 _
  have HM1 := MS.kept HM A2
  obtain ⟨mc, M1, M2⟩ := id HM1
  refine V_aload_n eL_law_592 rfl rfl ?_
  refine V_sarg eL_law_593 rfl rfl ?_
  refine V_iload_n eL_law_594 rfl rfl ?_
  refine V_iconst eL_law_595 ?_
  refine V_iadd eL_law_596 ?_
  refine V_sald eL_law_597 (by omega) ?_
  refine V_cvg eL_law_598 (PM h1 HM1) M1 rfl rfl (Nat.le_of_ble_eq_true rfl) ⟨rfl, rfl⟩ hcs (fun h2 hh => ?_)
  obtain ⟨B1, B2⟩ := hh
  show eb_V _ _ 601 _ [.int (eb_I v), .int (eb_I v)] _ h2 _
  exact V_same (tgt := 869) eL_law_601 rfl (nxt h2 S' (XS.kept A1 B2) B1 O')
theorem law_known (hi : i + 4 ≤ L) (hL : L ≤ 2048) (hcs : c ≤ 1000 ∧ s ≤ 100000) (HX : XS h (T, ty, fa, past, seed, i0, i1, sees, book)) (HM : MS h (T, ty, fa, past, seed, i0, i1, sees, book)) (HO : SOK T ty fa past seed i0 i1 sees book) (nxt : ∀ (h2 : eb_H) (S' : SS), XS h2 S' → MS h2 S' → OS S' → eb_V mL_law (eb_E L xs) 869 [.retAddr 0, .ref 0, .ref 67, .int (eb_I (i : Int))] [] (86, c, s) h2 LQ) : eb_V mL_law (eb_E L xs) 606 [.retAddr 0, .ref 0, .ref 67, .int (eb_I (i : Int))] [] (86, c, s) h LQ := by
  have rr : ∀ x : Int32, r32 x.toInt := fun x => eb_I_r x
  obtain ⟨v, S', O', PC, PM⟩ := pr_known (n := 86) HO (rr (xs ((i : Int) + 1).toNat)) (rr (xs ((i : Int) + 2).toNat))
  refine V_aload_n eL_law_606 rfl rfl ?_
  refine V_sarg eL_law_607 rfl rfl ?_
  refine V_iload_n eL_law_608 rfl rfl ?_
  refine V_iconst eL_law_609 ?_
  refine V_iadd eL_law_610 ?_
  refine V_sald eL_law_611 (by omega) ?_
  refine V_sarg eL_law_612 rfl rfl ?_
  refine V_iload_n eL_law_613 rfl rfl ?_
  refine V_iconst eL_law_614 ?_
  refine V_iadd eL_law_615 ?_
  refine V_sald eL_law_616 (by omega) ?_
  refine V_cvg eL_law_617 (PC h HX) HX.1.1 rfl rfl (Nat.le_of_ble_eq_true rfl) ⟨rfl, rfl⟩ hcs (fun h1 hh => ?_)
  obtain ⟨A1, A2⟩ := hh
  show eb_V _ _ 620 _ [.int (eb_I v)] _ h1 _
  have HM1 := MS.kept HM A2
  obtain ⟨mc, M1, M2⟩ := id HM1
  refine V_aload_n eL_law_620 rfl rfl ?_
  refine V_sarg eL_law_621 rfl rfl ?_
  refine V_iload_n eL_law_622 rfl rfl ?_
  refine V_iconst eL_law_623 ?_
  refine V_iadd eL_law_624 ?_
  refine V_sald eL_law_625 (by omega) ?_
  refine V_sarg eL_law_626 rfl rfl ?_
  refine V_iload_n eL_law_627 rfl rfl ?_
  refine V_iconst eL_law_628 ?_
  refine V_iadd eL_law_629 ?_
  refine V_sald eL_law_630 (by omega) ?_
  refine V_cvg eL_law_631 (PM h1 HM1) M1 rfl rfl (Nat.le_of_ble_eq_true rfl) ⟨rfl, rfl⟩ hcs (fun h2 hh => ?_)
  obtain ⟨B1, B2⟩ := hh
  show eb_V _ _ 634 _ [.int (eb_I v), .int (eb_I v)] _ h2 _
  exact V_same (tgt := 869) eL_law_634 rfl (nxt h2 S' (XS.kept A1 B2) B1 O')
theorem law_with (hi : i + 4 ≤ L) (hL : L ≤ 2048) (hcs : c ≤ 1000 ∧ s ≤ 100000) (HX : XS h (T, ty, fa, past, seed, i0, i1, sees, book)) (HM : MS h (T, ty, fa, past, seed, i0, i1, sees, book)) (HO : SOK T ty fa past seed i0 i1 sees book) (nxt : ∀ (h2 : eb_H) (S' : SS), XS h2 S' → MS h2 S' → OS S' → eb_V mL_law (eb_E L xs) 869 [.retAddr 0, .ref 0, .ref 67, .int (eb_I (i : Int))] [] (86, c, s) h2 LQ) : eb_V mL_law (eb_E L xs) 639 [.retAddr 0, .ref 0, .ref 67, .int (eb_I (i : Int))] [] (86, c, s) h LQ := by
  have rr : ∀ x : Int32, r32 x.toInt := fun x => eb_I_r x
  obtain ⟨v, S', O', PC, PM⟩ := pr_with (n := 86) HO (rr (xs ((i : Int) + 1).toNat))
  refine V_aload_n eL_law_639 rfl rfl ?_
  refine V_sarg eL_law_640 rfl rfl ?_
  refine V_iload_n eL_law_641 rfl rfl ?_
  refine V_iconst eL_law_642 ?_
  refine V_iadd eL_law_643 ?_
  refine V_sald eL_law_644 (by omega) ?_
  refine V_cvg eL_law_645 (PC h HX) HX.1.1 rfl rfl (Nat.le_of_ble_eq_true rfl) ⟨rfl, rfl⟩ hcs (fun h1 hh => ?_)
  obtain ⟨A1, A2⟩ := hh
  show eb_V _ _ 648 _ [.int (eb_I v)] _ h1 _
  have HM1 := MS.kept HM A2
  obtain ⟨mc, M1, M2⟩ := id HM1
  refine V_aload_n eL_law_648 rfl rfl ?_
  refine V_sarg eL_law_649 rfl rfl ?_
  refine V_iload_n eL_law_650 rfl rfl ?_
  refine V_iconst eL_law_651 ?_
  refine V_iadd eL_law_652 ?_
  refine V_sald eL_law_653 (by omega) ?_
  refine V_cvg eL_law_654 (PM h1 HM1) M1 rfl rfl (Nat.le_of_ble_eq_true rfl) ⟨rfl, rfl⟩ hcs (fun h2 hh => ?_)
  obtain ⟨B1, B2⟩ := hh
  show eb_V _ _ 657 _ [.int (eb_I v), .int (eb_I v)] _ h2 _
  exact V_same (tgt := 869) eL_law_657 rfl (nxt h2 S' (XS.kept A1 B2) B1 O')
theorem law_best (hi : i + 4 ≤ L) (hL : L ≤ 2048) (hcs : c ≤ 1000 ∧ s ≤ 100000) (HX : XS h (T, ty, fa, past, seed, i0, i1, sees, book)) (HM : MS h (T, ty, fa, past, seed, i0, i1, sees, book)) (HO : SOK T ty fa past seed i0 i1 sees book) (nxt : ∀ (h2 : eb_H) (S' : SS), XS h2 S' → MS h2 S' → OS S' → eb_V mL_law (eb_E L xs) 869 [.retAddr 0, .ref 0, .ref 67, .int (eb_I (i : Int))] [] (86, c, s) h2 LQ) : eb_V mL_law (eb_E L xs) 662 [.retAddr 0, .ref 0, .ref 67, .int (eb_I (i : Int))] [] (86, c, s) h LQ := by
  have rr : ∀ x : Int32, r32 x.toInt := fun x => eb_I_r x
  obtain ⟨v, S', O', PC, PM⟩ := pr_best (n := 86) HO (rr (xs ((i : Int) + 1).toNat)) (rr (xs ((i : Int) + 2).toNat)) (rr (xs ((i : Int) + 3).toNat))
  refine V_aload_n eL_law_662 rfl rfl ?_
  refine V_sarg eL_law_663 rfl rfl ?_
  refine V_iload_n eL_law_664 rfl rfl ?_
  refine V_iconst eL_law_665 ?_
  refine V_iadd eL_law_666 ?_
  refine V_sald eL_law_667 (by omega) ?_
  refine V_sarg eL_law_668 rfl rfl ?_
  refine V_iload_n eL_law_669 rfl rfl ?_
  refine V_iconst eL_law_670 ?_
  refine V_iadd eL_law_671 ?_
  refine V_sald eL_law_672 (by omega) ?_
  refine V_sarg eL_law_673 rfl rfl ?_
  refine V_iload_n eL_law_674 rfl rfl ?_
  refine V_iconst eL_law_675 ?_
  refine V_iadd eL_law_676 ?_
  refine V_sald eL_law_677 (by omega) ?_
  refine V_cvg eL_law_678 (PC h HX) HX.1.1 rfl rfl (Nat.le_of_ble_eq_true rfl) ⟨rfl, rfl⟩ hcs (fun h1 hh => ?_)
  obtain ⟨A1, A2⟩ := hh
  show eb_V _ _ 681 _ [.int (eb_I v)] _ h1 _
  have HM1 := MS.kept HM A2
  obtain ⟨mc, M1, M2⟩ := id HM1
  refine V_aload_n eL_law_681 rfl rfl ?_
  refine V_sarg eL_law_682 rfl rfl ?_
  refine V_iload_n eL_law_683 rfl rfl ?_
  refine V_iconst eL_law_684 ?_
  refine V_iadd eL_law_685 ?_
  refine V_sald eL_law_686 (by omega) ?_
  refine V_sarg eL_law_687 rfl rfl ?_
  refine V_iload_n eL_law_688 rfl rfl ?_
  refine V_iconst eL_law_689 ?_
  refine V_iadd eL_law_690 ?_
  refine V_sald eL_law_691 (by omega) ?_
  refine V_sarg eL_law_692 rfl rfl ?_
  refine V_iload_n eL_law_693 rfl rfl ?_
  refine V_iconst eL_law_694 ?_
  refine V_iadd eL_law_695 ?_
  refine V_sald eL_law_696 (by omega) ?_
  refine V_cvg eL_law_697 (PM h1 HM1) M1 rfl rfl (Nat.le_of_ble_eq_true rfl) ⟨rfl, rfl⟩ hcs (fun h2 hh => ?_)
  obtain ⟨B1, B2⟩ := hh
  show eb_V _ _ 700 _ [.int (eb_I v), .int (eb_I v)] _ h2 _
  exact V_same (tgt := 869) eL_law_700 rfl (nxt h2 S' (XS.kept A1 B2) B1 O')
theorem law_see (hi : i + 4 ≤ L) (hL : L ≤ 2048) (hcs : c ≤ 1000 ∧ s ≤ 100000) (HX : XS h (T, ty, fa, past, seed, i0, i1, sees, book)) (HM : MS h (T, ty, fa, past, seed, i0, i1, sees, book)) (HO : SOK T ty fa past seed i0 i1 sees book) (nxt : ∀ (h2 : eb_H) (S' : SS), XS h2 S' → MS h2 S' → OS S' → eb_V mL_law (eb_E L xs) 869 [.retAddr 0, .ref 0, .ref 67, .int (eb_I (i : Int))] [] (86, c, s) h2 LQ) : eb_V mL_law (eb_E L xs) 705 [.retAddr 0, .ref 0, .ref 67, .int (eb_I (i : Int))] [] (86, c, s) h LQ := by
  have rr : ∀ x : Int32, r32 x.toInt := fun x => eb_I_r x
  by_cases y : (xs ((i : Int) + 2).toNat).toInt = 0
  · obtain ⟨v, S', O', PC, PM⟩ := pr_see (n := 86) (x := false) HO (rr (xs ((i : Int) + 1).toNat))
    refine V_aload_n eL_law_705 rfl rfl ?_
    refine V_sarg eL_law_706 rfl rfl ?_
    refine V_iload_n eL_law_707 rfl rfl ?_
    refine V_iconst eL_law_708 ?_
    refine V_iadd eL_law_709 ?_
    refine V_sald eL_law_710 (by omega) ?_
    refine V_sarg eL_law_711 rfl rfl ?_
    refine V_iload_n eL_law_712 rfl rfl ?_
    refine V_iconst eL_law_713 ?_
    refine V_iadd eL_law_714 ?_
    refine V_sald eL_law_715 (by omega) ?_
    refine V_if_eq (tgt := 723) eL_law_716 rfl (rr _) (fun c_716 => ?_) (fun c_716 => ?_)
    · refine V_iconst eL_law_723 ?_
      refine V_cvg eL_law_724 (PC h HX) HX.1.1 rfl rfl (Nat.le_of_ble_eq_true rfl) ⟨rfl, rfl⟩ hcs (fun h1 hh => ?_)
      obtain ⟨A1, A2⟩ := hh
      show eb_V _ _ 727 _ [.int (eb_I v)] _ h1 _
      have HM1 := MS.kept HM A2
      obtain ⟨mc, M1, M2⟩ := id HM1
      refine V_aload_n eL_law_727 rfl rfl ?_
      refine V_sarg eL_law_728 rfl rfl ?_
      refine V_iload_n eL_law_729 rfl rfl ?_
      refine V_iconst eL_law_730 ?_
      refine V_iadd eL_law_731 ?_
      refine V_sald eL_law_732 (by omega) ?_
      refine V_sarg eL_law_733 rfl rfl ?_
      refine V_iload_n eL_law_734 rfl rfl ?_
      refine V_iconst eL_law_735 ?_
      refine V_iadd eL_law_736 ?_
      refine V_sald eL_law_737 (by omega) ?_
      refine V_if_eq (tgt := 745) eL_law_738 rfl (rr _) (fun c_738 => ?_) (fun c_738 => ?_)
      · refine V_iconst eL_law_745 ?_
        refine V_cvg eL_law_746 (PM h1 HM1) M1 rfl rfl (Nat.le_of_ble_eq_true rfl) ⟨rfl, rfl⟩ hcs (fun h2 hh => ?_)
        obtain ⟨B1, B2⟩ := hh
        show eb_V _ _ 749 _ [.int (eb_I v), .int (eb_I v)] _ h2 _
        exact V_same (tgt := 869) eL_law_749 rfl (nxt h2 S' (XS.kept A1 B2) B1 O')
      · exact absurd y c_738
    · exact absurd y c_716
  · obtain ⟨v, S', O', PC, PM⟩ := pr_see (n := 86) (x := true) HO (rr (xs ((i : Int) + 1).toNat))
    refine V_aload_n eL_law_705 rfl rfl ?_
    refine V_sarg eL_law_706 rfl rfl ?_
    refine V_iload_n eL_law_707 rfl rfl ?_
    refine V_iconst eL_law_708 ?_
    refine V_iadd eL_law_709 ?_
    refine V_sald eL_law_710 (by omega) ?_
    refine V_sarg eL_law_711 rfl rfl ?_
    refine V_iload_n eL_law_712 rfl rfl ?_
    refine V_iconst eL_law_713 ?_
    refine V_iadd eL_law_714 ?_
    refine V_sald eL_law_715 (by omega) ?_
    refine V_if_eq (tgt := 723) eL_law_716 rfl (rr _) (fun c_716 => ?_) (fun c_716 => ?_)
    · exact absurd c_716 y
    · refine V_iconst eL_law_719 ?_
      refine V_goto (tgt := 724) eL_law_720 rfl ?_
      refine V_cvg eL_law_724 (PC h HX) HX.1.1 rfl rfl (Nat.le_of_ble_eq_true rfl) ⟨rfl, rfl⟩ hcs (fun h1 hh => ?_)
      obtain ⟨A1, A2⟩ := hh
      show eb_V _ _ 727 _ [.int (eb_I v)] _ h1 _
      have HM1 := MS.kept HM A2
      obtain ⟨mc, M1, M2⟩ := id HM1
      refine V_aload_n eL_law_727 rfl rfl ?_
      refine V_sarg eL_law_728 rfl rfl ?_
      refine V_iload_n eL_law_729 rfl rfl ?_
      refine V_iconst eL_law_730 ?_
      refine V_iadd eL_law_731 ?_
      refine V_sald eL_law_732 (by omega) ?_
      refine V_sarg eL_law_733 rfl rfl ?_
      refine V_iload_n eL_law_734 rfl rfl ?_
      refine V_iconst eL_law_735 ?_
      refine V_iadd eL_law_736 ?_
      refine V_sald eL_law_737 (by omega) ?_
      refine V_if_eq (tgt := 745) eL_law_738 rfl (rr _) (fun c_738 => ?_) (fun c_738 => ?_)
      · exact absurd c_738 y
      · refine V_iconst eL_law_741 ?_
        refine V_goto (tgt := 746) eL_law_742 rfl ?_
        refine V_cvg eL_law_746 (PM h1 HM1) M1 rfl rfl (Nat.le_of_ble_eq_true rfl) ⟨rfl, rfl⟩ hcs (fun h2 hh => ?_)
        obtain ⟨B1, B2⟩ := hh
        show eb_V _ _ 749 _ [.int (eb_I v), .int (eb_I v)] _ h2 _
        exact V_same (tgt := 869) eL_law_749 rfl (nxt h2 S' (XS.kept A1 B2) B1 O')
theorem law_write (hi : i + 4 ≤ L) (hL : L ≤ 2048) (hcs : c ≤ 1000 ∧ s ≤ 100000) (HX : XS h (T, ty, fa, past, seed, i0, i1, sees, book)) (HM : MS h (T, ty, fa, past, seed, i0, i1, sees, book)) (HO : SOK T ty fa past seed i0 i1 sees book) (nxt : ∀ (h2 : eb_H) (S' : SS), XS h2 S' → MS h2 S' → OS S' → eb_V mL_law (eb_E L xs) 869 [.retAddr 0, .ref 0, .ref 67, .int (eb_I (i : Int))] [] (86, c, s) h2 LQ) : eb_V mL_law (eb_E L xs) 754 [.retAddr 0, .ref 0, .ref 67, .int (eb_I (i : Int))] [] (86, c, s) h LQ := by
  have rr : ∀ x : Int32, r32 x.toInt := fun x => eb_I_r x
  obtain ⟨v, S', O', PC, PM⟩ := pr_write (n := 86) HO (rr (xs ((i : Int) + 1).toNat)) (rr (xs ((i : Int) + 2).toNat))
  refine V_aload_n eL_law_754 rfl rfl ?_
  refine V_sarg eL_law_755 rfl rfl ?_
  refine V_iload_n eL_law_756 rfl rfl ?_
  refine V_iconst eL_law_757 ?_
  refine V_iadd eL_law_758 ?_
  refine V_sald eL_law_759 (by omega) ?_
  refine V_sarg eL_law_760 rfl rfl ?_
  refine V_iload_n eL_law_761 rfl rfl ?_
  refine V_iconst eL_law_762 ?_
  refine V_iadd eL_law_763 ?_
  refine V_sald eL_law_764 (by omega) ?_
  refine V_cvg eL_law_765 (PC h HX) HX.1.1 rfl rfl (Nat.le_of_ble_eq_true rfl) ⟨rfl, rfl⟩ hcs (fun h1 hh => ?_)
  obtain ⟨A1, A2⟩ := hh
  show eb_V _ _ 768 _ [.int (eb_I v)] _ h1 _
  have HM1 := MS.kept HM A2
  obtain ⟨mc, M1, M2⟩ := id HM1
  refine V_aload_n eL_law_768 rfl rfl ?_
  refine V_sarg eL_law_769 rfl rfl ?_
  refine V_iload_n eL_law_770 rfl rfl ?_
  refine V_iconst eL_law_771 ?_
  refine V_iadd eL_law_772 ?_
  refine V_sald eL_law_773 (by omega) ?_
  refine V_sarg eL_law_774 rfl rfl ?_
  refine V_iload_n eL_law_775 rfl rfl ?_
  refine V_iconst eL_law_776 ?_
  refine V_iadd eL_law_777 ?_
  refine V_sald eL_law_778 (by omega) ?_
  refine V_cvg eL_law_779 (PM h1 HM1) M1 rfl rfl (Nat.le_of_ble_eq_true rfl) ⟨rfl, rfl⟩ hcs (fun h2 hh => ?_)
  obtain ⟨B1, B2⟩ := hh
  show eb_V _ _ 782 _ [.int (eb_I v), .int (eb_I v)] _ h2 _
  exact V_same (tgt := 869) eL_law_782 rfl (nxt h2 S' (XS.kept A1 B2) B1 O')
theorem law_tear (hi : i + 4 ≤ L) (hL : L ≤ 2048) (hcs : c ≤ 1000 ∧ s ≤ 100000) (HX : XS h (T, ty, fa, past, seed, i0, i1, sees, book)) (HM : MS h (T, ty, fa, past, seed, i0, i1, sees, book)) (HO : SOK T ty fa past seed i0 i1 sees book) (nxt : ∀ (h2 : eb_H) (S' : SS), XS h2 S' → MS h2 S' → OS S' → eb_V mL_law (eb_E L xs) 869 [.retAddr 0, .ref 0, .ref 67, .int (eb_I (i : Int))] [] (86, c, s) h2 LQ) : eb_V mL_law (eb_E L xs) 787 [.retAddr 0, .ref 0, .ref 67, .int (eb_I (i : Int))] [] (86, c, s) h LQ := by
  have rr : ∀ x : Int32, r32 x.toInt := fun x => eb_I_r x
  obtain ⟨v, S', O', PC, PM⟩ := pr_tear (n := 86) HO
  refine V_aload_n eL_law_787 rfl rfl ?_
  refine V_cvg eL_law_788 (PC h HX) HX.1.1 rfl rfl (Nat.le_of_ble_eq_true rfl) ⟨rfl, rfl⟩ hcs (fun h1 hh => ?_)
  obtain ⟨A1, A2⟩ := hh
  show eb_V _ _ 791 _ [.int (eb_I v)] _ h1 _
  have HM1 := MS.kept HM A2
  obtain ⟨mc, M1, M2⟩ := id HM1
  refine V_aload_n eL_law_791 rfl rfl ?_
  refine V_cvg eL_law_792 (PM h1 HM1) M1 rfl rfl (Nat.le_of_ble_eq_true rfl) ⟨rfl, rfl⟩ hcs (fun h2 hh => ?_)
  obtain ⟨B1, B2⟩ := hh
  show eb_V _ _ 795 _ [.int (eb_I v), .int (eb_I v)] _ h2 _
  exact V_same (tgt := 869) eL_law_795 rfl (nxt h2 S' (XS.kept A1 B2) B1 O')
theorem law_seed (hi : i + 4 ≤ L) (hL : L ≤ 2048) (hcs : c ≤ 1000 ∧ s ≤ 100000) (HX : XS h (T, ty, fa, past, seed, i0, i1, sees, book)) (HM : MS h (T, ty, fa, past, seed, i0, i1, sees, book)) (HO : SOK T ty fa past seed i0 i1 sees book) (nxt : ∀ (h2 : eb_H) (S' : SS), XS h2 S' → MS h2 S' → OS S' → eb_V mL_law (eb_E L xs) 869 [.retAddr 0, .ref 0, .ref 67, .int (eb_I (i : Int))] [] (86, c, s) h2 LQ) : eb_V mL_law (eb_E L xs) 800 [.retAddr 0, .ref 0, .ref 67, .int (eb_I (i : Int))] [] (86, c, s) h LQ := by
  have rr : ∀ x : Int32, r32 x.toInt := fun x => eb_I_r x
  obtain ⟨v, S', O', PC, PM⟩ := pr_seed (n := 86) HO (rr (xs ((i : Int) + 1).toNat))
  refine V_aload_n eL_law_800 rfl rfl ?_
  refine V_sarg eL_law_801 rfl rfl ?_
  refine V_iload_n eL_law_802 rfl rfl ?_
  refine V_iconst eL_law_803 ?_
  refine V_iadd eL_law_804 ?_
  refine V_sald eL_law_805 (by omega) ?_
  refine V_cvg eL_law_806 (PC h HX) HX.1.1 rfl rfl (Nat.le_of_ble_eq_true rfl) ⟨rfl, rfl⟩ hcs (fun h1 hh => ?_)
  obtain ⟨A1, A2⟩ := hh
  show eb_V _ _ 809 _ [.int (eb_I v)] _ h1 _
  have HM1 := MS.kept HM A2
  obtain ⟨mc, M1, M2⟩ := id HM1
  refine V_aload_n eL_law_809 rfl rfl ?_
  refine V_sarg eL_law_810 rfl rfl ?_
  refine V_iload_n eL_law_811 rfl rfl ?_
  refine V_iconst eL_law_812 ?_
  refine V_iadd eL_law_813 ?_
  refine V_sald eL_law_814 (by omega) ?_
  refine V_cvg eL_law_815 (PM h1 HM1) M1 rfl rfl (Nat.le_of_ble_eq_true rfl) ⟨rfl, rfl⟩ hcs (fun h2 hh => ?_)
  obtain ⟨B1, B2⟩ := hh
  show eb_V _ _ 818 _ [.int (eb_I v), .int (eb_I v)] _ h2 _
  exact V_same (tgt := 869) eL_law_818 rfl (nxt h2 S' (XS.kept A1 B2) B1 O')
theorem law_keep (hi : i + 4 ≤ L) (hL : L ≤ 2048) (hcs : c ≤ 1000 ∧ s ≤ 100000) (HX : XS h (T, ty, fa, past, seed, i0, i1, sees, book)) (HM : MS h (T, ty, fa, past, seed, i0, i1, sees, book)) (HO : SOK T ty fa past seed i0 i1 sees book) (nxt : ∀ (h2 : eb_H) (S' : SS), XS h2 S' → MS h2 S' → OS S' → eb_V mL_law (eb_E L xs) 869 [.retAddr 0, .ref 0, .ref 67, .int (eb_I (i : Int))] [] (86, c, s) h2 LQ) : eb_V mL_law (eb_E L xs) 823 [.retAddr 0, .ref 0, .ref 67, .int (eb_I (i : Int))] [] (86, c, s) h LQ := by
  have rr : ∀ x : Int32, r32 x.toInt := fun x => eb_I_r x
  obtain ⟨v, S', O', PC, PM⟩ := pr_keep (n := 86) HO (rr (xs ((i : Int) + 1).toNat))
  refine V_aload_n eL_law_823 rfl rfl ?_
  refine V_sarg eL_law_824 rfl rfl ?_
  refine V_iload_n eL_law_825 rfl rfl ?_
  refine V_iconst eL_law_826 ?_
  refine V_iadd eL_law_827 ?_
  refine V_sald eL_law_828 (by omega) ?_
  refine V_cvg eL_law_829 (PC h HX) HX.1.1 rfl rfl (Nat.le_of_ble_eq_true rfl) ⟨rfl, rfl⟩ hcs (fun h1 hh => ?_)
  obtain ⟨A1, A2⟩ := hh
  show eb_V _ _ 832 _ [.int (eb_I v)] _ h1 _
  have HM1 := MS.kept HM A2
  obtain ⟨mc, M1, M2⟩ := id HM1
  refine V_aload_n eL_law_832 rfl rfl ?_
  refine V_sarg eL_law_833 rfl rfl ?_
  refine V_iload_n eL_law_834 rfl rfl ?_
  refine V_iconst eL_law_835 ?_
  refine V_iadd eL_law_836 ?_
  refine V_sald eL_law_837 (by omega) ?_
  refine V_cvg eL_law_838 (PM h1 HM1) M1 rfl rfl (Nat.le_of_ble_eq_true rfl) ⟨rfl, rfl⟩ hcs (fun h2 hh => ?_)
  obtain ⟨B1, B2⟩ := hh
  show eb_V _ _ 841 _ [.int (eb_I v), .int (eb_I v)] _ h2 _
  exact V_same (tgt := 869) eL_law_841 rfl (nxt h2 S' (XS.kept A1 B2) B1 O')
theorem law_goBack (hi : i + 4 ≤ L) (hL : L ≤ 2048) (hcs : c ≤ 1000 ∧ s ≤ 100000) (HX : XS h (T, ty, fa, past, seed, i0, i1, sees, book)) (HM : MS h (T, ty, fa, past, seed, i0, i1, sees, book)) (HO : SOK T ty fa past seed i0 i1 sees book) (nxt : ∀ (h2 : eb_H) (S' : SS), XS h2 S' → MS h2 S' → OS S' → eb_V mL_law (eb_E L xs) 869 [.retAddr 0, .ref 0, .ref 67, .int (eb_I (i : Int))] [] (86, c, s) h2 LQ) : eb_V mL_law (eb_E L xs) 846 [.retAddr 0, .ref 0, .ref 67, .int (eb_I (i : Int))] [] (86, c, s) h LQ := by
  have rr : ∀ x : Int32, r32 x.toInt := fun x => eb_I_r x
  obtain ⟨v, S', O', PC, PM⟩ := pr_goBack (n := 86) HO (rr (xs ((i : Int) + 1).toNat))
  refine V_aload_n eL_law_846 rfl rfl ?_
  refine V_sarg eL_law_847 rfl rfl ?_
  refine V_iload_n eL_law_848 rfl rfl ?_
  refine V_iconst eL_law_849 ?_
  refine V_iadd eL_law_850 ?_
  refine V_sald eL_law_851 (by omega) ?_
  refine V_cvg eL_law_852 (PC h HX) HX.1.1 rfl rfl (Nat.le_of_ble_eq_true rfl) ⟨rfl, rfl⟩ hcs (fun h1 hh => ?_)
  obtain ⟨A1, A2⟩ := hh
  show eb_V _ _ 855 _ [.int (eb_I v)] _ h1 _
  have HM1 := MS.kept HM A2
  obtain ⟨mc, M1, M2⟩ := id HM1
  refine V_aload_n eL_law_855 rfl rfl ?_
  refine V_sarg eL_law_856 rfl rfl ?_
  refine V_iload_n eL_law_857 rfl rfl ?_
  refine V_iconst eL_law_858 ?_
  refine V_iadd eL_law_859 ?_
  refine V_sald eL_law_860 (by omega) ?_
  refine V_cvg eL_law_861 (PM h1 HM1) M1 rfl rfl (Nat.le_of_ble_eq_true rfl) ⟨rfl, rfl⟩ hcs (fun h2 hh => ?_)
  obtain ⟨B1, B2⟩ := hh
  show eb_V _ _ 864 _ [.int (eb_I v), .int (eb_I v)] _ h2 _
  exact V_same (tgt := 869) eL_law_864 rfl (nxt h2 S' (XS.kept A1 B2) B1 O')
theorem law_loop (hL : L ≤ 2048) (hcs : c ≤ 1000 ∧ s ≤ 100000) : ∀ (d i : Nat) (h : eb_H) (S : SS), L ≤ i + d → i ≤ L + 3 → XS h S → MS h S → OS S → eb_V mL_law (eb_E L xs) 18 [.retAddr 0, .ref 0, .ref 67, .int (eb_I (i : Int))] [] (86, c, s) h LQ := by
  intro d
  induction d with
  | zero =>
    intro i h S hd hi HX HM HO
    refine V_iload_n eL_law_18 rfl rfl ?_
    refine V_sarg eL_law_19 rfl rfl ?_
    refine V_slen eL_law_20 ?_
    refine V_iconst eL_law_21 ?_
    refine V_isub eL_law_22 ?_
    refine V_icmp_gt (tgt := 875) eL_law_23 rfl (by omega) (fun c_23 => ?_) (fun c_23 => ?_)
    · refine V_iconst eL_law_875 ?_
      exact eb_V.done ⟨rfl, rfl, hcs⟩
    · exact absurd (by omega) c_23
  | succ d ih =>
    intro i h S hd hi HX HM HO
    by_cases y : i + 4 ≤ L
    · have nxt : ∀ (h2 : eb_H) (S' : SS), XS h2 S' → MS h2 S' → OS S' → eb_V mL_law (eb_E L xs) 869 [.retAddr 0, .ref 0, .ref 67, .int (eb_I (i : Int))] [] (86, c, s) h2 LQ := by
        intro h2 S' A1 A2 A3
        refine V_iinc eL_law_869 rfl rfl (eb_sS (eb_sS (eb_sS eb_s0))) ?_
        refine V_goto (tgt := 18) eL_law_872 rfl ?_
        exact ih (i + 4) h2 S' (by omega) (by omega) A1 A2 A3
      obtain ⟨T, ty, fa, past, seed, i0, i1, sees, book⟩ := S
      obtain ⟨v, hv, ev⟩ := and31 (xs ((i : Int)).toNat)
      have sw : eb_V mL_law (eb_E L xs) 32 [.retAddr 0, .ref 0, .ref 67, .int (eb_I (i : Int))] [.int (eb_I (v : Int))] (86, c, s) h LQ := by
        have : v = 0 ∨ v = 1 ∨ v = 2 ∨ v = 3 ∨ v = 4 ∨ v = 5 ∨ v = 6 ∨ v = 7 ∨ v = 8 ∨ v = 9 ∨ v = 10 ∨ v = 11 ∨ v = 12 ∨ v = 13 ∨ v = 14 ∨ v = 15 ∨ v = 16 ∨ v = 17 ∨ v = 18 ∨ v = 19 ∨ v = 20 ∨ v = 21 ∨ v = 22 ∨ v = 23 ∨ v = 24 ∨ v = 25 ∨ v = 26 ∨ 27 ≤ v := by omega
        rcases this with rfl | rfl | rfl | rfl | rfl | rfl | rfl | rfl | rfl | rfl | rfl | rfl | rfl | rfl | rfl | rfl | rfl | rfl | rfl | rfl | rfl | rfl | rfl | rfl | rfl | rfl | rfl | y27
        · refine V_tswIn (tgt := 156) (off := 124) eL_law_32 (by omega) (by omega) rfl rfl ?_
          exact law_feed y hL hcs HX HM HO nxt
        · refine V_tswIn (tgt := 179) (off := 147) eL_law_32 (by omega) (by omega) rfl rfl ?_
          exact law_type y hL hcs HX HM HO nxt
        · refine V_tswIn (tgt := 192) (off := 160) eL_law_32 (by omega) (by omega) rfl rfl ?_
          exact law_fault y hL hcs HX HM HO nxt
        · refine V_tswIn (tgt := 205) (off := 173) eL_law_32 (by omega) (by omega) rfl rfl ?_
          exact law_told y hL hcs HX HM HO nxt
        · refine V_tswIn (tgt := 228) (off := 196) eL_law_32 (by omega) (by omega) rfl rfl ?_
          exact law_word y hL hcs HX HM HO nxt
        · refine V_tswIn (tgt := 261) (off := 229) eL_law_32 (by omega) (by omega) rfl rfl ?_
          exact law_end y hL hcs HX HM HO nxt
        · refine V_tswIn (tgt := 294) (off := 262) eL_law_32 (by omega) (by omega) rfl rfl ?_
          exact law_line y hL hcs HX HM HO nxt
        · refine V_tswIn (tgt := 327) (off := 295) eL_law_32 (by omega) (by omega) rfl rfl ?_
          exact law_change y hL hcs HX HM HO nxt
        · refine V_tswIn (tgt := 350) (off := 318) eL_law_32 (by omega) (by omega) rfl rfl ?_
          exact law_insert y hL hcs HX HM HO nxt
        · refine V_tswIn (tgt := 373) (off := 341) eL_law_32 (by omega) (by omega) rfl rfl ?_
          exact law_take y hL hcs HX HM HO nxt
        · refine V_tswIn (tgt := 396) (off := 364) eL_law_32 (by omega) (by omega) rfl rfl ?_
          exact law_measure y hL hcs HX HM HO nxt
        · refine V_tswIn (tgt := 419) (off := 387) eL_law_32 (by omega) (by omega) rfl rfl ?_
          exact law_rule y hL hcs HX HM HO nxt
        · refine V_tswIn (tgt := 442) (off := 410) eL_law_32 (by omega) (by omega) rfl rfl ?_
          exact law_fee y hL hcs HX HM HO nxt
        · refine V_tswIn (tgt := 465) (off := 433) eL_law_32 (by omega) (by omega) rfl rfl ?_
          exact law_free y hL hcs HX HM HO nxt
        · refine V_tswIn (tgt := 504) (off := 472) eL_law_32 (by omega) (by omega) rfl rfl ?_
          exact law_drift y hL hcs HX HM HO nxt
        · refine V_tswIn (tgt := 527) (off := 495) eL_law_32 (by omega) (by omega) rfl rfl ?_
          exact law_undo y hL hcs HX HM HO nxt
        · refine V_tswIn (tgt := 550) (off := 518) eL_law_32 (by omega) (by omega) rfl rfl ?_
          exact law_cost y hL hcs HX HM HO nxt
        · refine V_tswIn (tgt := 583) (off := 551) eL_law_32 (by omega) (by omega) rfl rfl ?_
          exact law_first y hL hcs HX HM HO nxt
        · refine V_tswIn (tgt := 606) (off := 574) eL_law_32 (by omega) (by omega) rfl rfl ?_
          exact law_known y hL hcs HX HM HO nxt
        · refine V_tswIn (tgt := 639) (off := 607) eL_law_32 (by omega) (by omega) rfl rfl ?_
          exact law_with y hL hcs HX HM HO nxt
        · refine V_tswIn (tgt := 662) (off := 630) eL_law_32 (by omega) (by omega) rfl rfl ?_
          exact law_best y hL hcs HX HM HO nxt
        · refine V_tswIn (tgt := 705) (off := 673) eL_law_32 (by omega) (by omega) rfl rfl ?_
          exact law_see y hL hcs HX HM HO nxt
        · refine V_tswIn (tgt := 754) (off := 722) eL_law_32 (by omega) (by omega) rfl rfl ?_
          exact law_write y hL hcs HX HM HO nxt
        · refine V_tswIn (tgt := 787) (off := 755) eL_law_32 (by omega) (by omega) rfl rfl ?_
          exact law_tear y hL hcs HX HM HO nxt
        · refine V_tswIn (tgt := 800) (off := 768) eL_law_32 (by omega) (by omega) rfl rfl ?_
          exact law_seed y hL hcs HX HM HO nxt
        · refine V_tswIn (tgt := 823) (off := 791) eL_law_32 (by omega) (by omega) rfl rfl ?_
          exact law_keep y hL hcs HX HM HO nxt
        · refine V_tswIn (tgt := 846) (off := 814) eL_law_32 (by omega) (by omega) rfl rfl ?_
          exact law_goBack y hL hcs HX HM HO nxt
        · refine V_tswOut (tgt := 869) eL_law_32 (by omega) (Or.inr (by omega)) rfl ?_
          exact nxt h _ HX HM HO
      refine V_iload_n eL_law_18 rfl rfl ?_
      refine V_sarg eL_law_19 rfl rfl ?_
      refine V_slen eL_law_20 ?_
      refine V_iconst eL_law_21 ?_
      refine V_isub eL_law_22 ?_
      refine V_icmp_gt (tgt := 875) eL_law_23 rfl (by omega) (fun c_23 => ?_) (fun c_23 => ?_)
      · exact absurd c_23 (by omega)
      · refine V_sarg eL_law_26 rfl rfl ?_
        refine V_iload_n eL_law_27 rfl rfl ?_
        refine V_sald eL_law_28 (by omega) ?_
        refine V_bipush eL_law_29 (by decide) ?_
        refine V_iand eL_law_31 (ev) ?_
        exact sw
    · refine V_iload_n eL_law_18 rfl rfl ?_
      refine V_sarg eL_law_19 rfl rfl ?_
      refine V_slen eL_law_20 ?_
      refine V_iconst eL_law_21 ?_
      refine V_isub eL_law_22 ?_
      refine V_icmp_gt (tgt := 875) eL_law_23 rfl (by omega) (fun c_23 => ?_) (fun c_23 => ?_)
      · refine V_iconst eL_law_875 ?_
        exact eb_V.done ⟨rfl, rfl, hcs⟩
      · exact absurd (by omega) c_23
def h_0 : eb_H := fun _ => .inr (99, [])
theorem law_all (hL : L ≤ 2048) : eb_V mL_law (eb_E L xs) 0 [.retAddr 0, eb_no, eb_no, eb_no] [] (0, 0, 0) h_0 LQ := by
  refine V_new eL_law_0 (fun _ _ => rfl) (by decide) ?_
  refine V_dup eL_law_3 rfl ?_
  refine V_callc eL_law_4 (c_X9_init eb_up_s) rfl rfl (by decide) (by decide) (Or.inr (fun r n' h' z => by rw [z.2.1]; exact Nat.le_refl _)) (fun r n' h1 z => ?_)
  obtain ⟨rfl, rfl, HX⟩ := z
  show eb_V _ _ 7 _ [.ref 0] (67, _, _) h1 _
  refine V_astore_n eL_law_7 rfl (Nat.le_of_ble_eq_true rfl) rfl (eb_sS eb_s0) ?_
  refine V_new eL_law_8 (fun _ _ => rfl) (by decide) ?_
  refine V_dup eL_law_11 rfl ?_
  refine V_callc eL_law_12 (c_X10_init eb_up_s) rfl rfl (by decide) (by decide) (Or.inr (fun r n' h' z => by rw [z.2.1]; exact Nat.le_refl _)) (fun r n' h2 z => ?_)
  obtain ⟨rfl, rfl, HM, HF⟩ := z
  show eb_V _ _ 15 _ [.ref 67] (86, _, _) h2 _
  refine V_astore_n eL_law_15 rfl (Nat.le_of_ble_eq_true rfl) rfl (eb_sS (eb_sS eb_s0)) ?_
  refine V_iconst eL_law_16 ?_
  refine V_istore_n eL_law_17 rfl (Nat.le_of_ble_eq_true rfl) rfl (eb_sS (eb_sS (eb_sS eb_s0))) ?_
  exact law_loop hL (by decide) L 0 h2 (([], 30, 0, 0, 0), [], -1, [], 0, none, none, [], []) (by omega) (by omega) (XS.kept (h := h1) HX (fun k hk => (HF k hk).trans (eb_up_n (by omega) rfl))) HM ⟨⟨⟨by simp, ⟨by decide, by decide⟩, ⟨by decide, by decide⟩, ⟨by decide, by decide⟩, Or.inl rfl⟩, by simp⟩, ⟨by simp, by simp⟩, ⟨by decide, by decide⟩, ⟨by simp, by simp⟩, ⟨by decide, by decide⟩, fun q hq => (by cases hq), fun q hq => (by cases hq), ⟨by simp, by simp⟩, ⟨by simp, by simp⟩⟩
end LAW
