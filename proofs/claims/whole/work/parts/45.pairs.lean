abbrev SS : Type := TX × List Nat × Int × List TX × Int × Option (TX × Int) × Option (TX × Int) × List (Nat × Bool) × List (Int × Int)
def XS (h : eb_H) (S : SS) : Prop := XR h S.1 S.2.1 S.2.2.1 S.2.2.2.1 S.2.2.2.2.1 S.2.2.2.2.2.1 S.2.2.2.2.2.2.1 S.2.2.2.2.2.2.2.1 S.2.2.2.2.2.2.2.2
def MS (h : eb_H) (S : SS) : Prop := MR h S.1 S.2.1 S.2.2.1 S.2.2.2.1 S.2.2.2.2.1 S.2.2.2.2.2.1 S.2.2.2.2.2.2.1 S.2.2.2.2.2.2.2.1 S.2.2.2.2.2.2.2.2
def OS (S : SS) : Prop := SOK S.1 S.2.1 S.2.2.1 S.2.2.2.1 S.2.2.2.2.1 S.2.2.2.2.2.1 S.2.2.2.2.2.2.1 S.2.2.2.2.2.2.2.1 S.2.2.2.2.2.2.2.2
def PR (Mc Mm : eb_M) (As : List Value) (S : SS) (n : Nat) : Prop := ∃ (v : Int) (S' : SS), OS S' ∧ (∀ h, XS h S → eb_T Mc (.ref 0 :: As) n h (eb_G (some (.int (eb_I v))) n (fun h' => XS h' S' ∧ F67 h h'))) ∧ (∀ h, MS h S → eb_T Mm (.ref 67 :: As) n h (eb_G (some (.int (eb_I v))) n (fun h' => MS h' S' ∧ L67 h h')))
def r32 (a : Int) : Prop := -2147483648 ≤ a ∧ a ≤ 2147483647
theorem n_of {a : Int} (h : 0 ≤ a) : ∃ k : Nat, a = (k : Int) := Int.eq_ofNat_of_zero_le h
section PRS
variable {n : Nat} {T : TX} {ty : List Nat} {fa : Int} {past : List TX} {seed : Int} {i0 i1 : Option (TX × Int)} {sees : List (Nat × Bool)} {book : List (Int × Int)}
theorem SOK.deed {T' : TX} (HO : SOK T ty fa past seed i0 i1 sees book) (h : TX_ok T') : SOK T' ty fa ((T :: past).take 16) seed i0 i1 sees book := by
  obtain ⟨HT, hty, hfa, hpo, hsd, hg0, hg1, hsu, hbk⟩ := HO
  exact ⟨h, hty, hfa, take16_ok HT hpo.2, hsd, hg0, hg1, hsu, hbk⟩
theorem SOK.read (HO : SOK T ty fa past seed i0 i1 sees book) : SOK T [] (rd ty 0 [] 0).2.1 past seed i0 i1 sees book := by
  obtain ⟨HT, hty, hfa, hpo, hsd, hg0, hg1, hsu, hbk⟩ := HO
  have := (rd_ok ty 0 [] 0 rd_inv_0).2.2
  exact ⟨HT, ⟨by simp, by simp⟩, ⟨this.1, by omega⟩, hpo, hsd, hg0, hg1, hsu, hbk⟩
theorem pr_feed {c : Int} (HO : SOK T ty fa past seed i0 i1 sees book) (hr : r32 c) : PR mX9_feed mX10_feed [.int (eb_I c)] (T, ty, fa, past, seed, i0, i1, sees, book) n := by
  by_cases y : c < 0 ∨ 255 < c
  · exact ⟨_, (T, ty, fa, past, seed, i0, i1, sees, book), HO, fun h HR => x9_feed_out HR hr y, fun h HR => x10_feed_out HR HO hr y⟩
  · obtain ⟨k, rfl⟩ := n_of (a := c) (by omega)
    refine ⟨_, (T, (if 240 ≤ ty.length then ty else ty ++ [k]), fa, past, seed, i0, i1, sees, book), ?_, fun h HR => x9_feed_in HR HO (by omega), fun h HR => x10_feed_in HR HO (by omega)⟩
    obtain ⟨HT, hty, hfa, hpo, hsd, hg0, hg1, hsu, hbk⟩ := HO
    refine ⟨HT, ?_, hfa, hpo, hsd, hg0, hg1, hsu, hbk⟩
    by_cases z : 240 ≤ ty.length
    · simp only [if_pos z]; exact hty
    · simp only [if_neg z]
      refine ⟨by simp; omega, fun x hx => ?_⟩
      rcases List.mem_append.mp hx with q | q
      · exact hty.2 x q
      · rw [List.mem_singleton.mp q]; omega
theorem pr_fault (HO : SOK T ty fa past seed i0 i1 sees book) : PR mX9_fault mX10_fault [] (T, ty, fa, past, seed, i0, i1, sees, book) n := ⟨_, (T, ty, fa, past, seed, i0, i1, sees, book), HO, fun h HR => x9_fault HR, fun h HR => x10_fault HR HO⟩
theorem pr_type (HO : SOK T ty fa past seed i0 i1 sees book) : PR mX9_type mX10_type [] (T, ty, fa, past, seed, i0, i1, sees, book) n := by
  by_cases y : (rd ty 0 [] 0).1 = 0
  · exact ⟨_, (((rd ty 0 [] 0).2.2, T.2), [], (rd ty 0 [] 0).2.1, (T :: past).take 16, seed, i0, i1, sees, book), (HO.read).deed (rd_tx HO.1 (rd_ok ty 0 [] 0 rd_inv_0).1), fun h HR => x9_type_ok HR HO y, fun h HR => x10_type_ok HR HO y⟩
  · exact ⟨_, (T, [], (rd ty 0 [] 0).2.1, past, seed, i0, i1, sees, book), HO.read, fun h HR => x9_type_bad HR HO y, fun h HR => x10_type_bad HR HO y⟩
theorem pr_told {w : Int} (HO : SOK T ty fa past seed i0 i1 sees book) (hw : r32 w) : PR mX9_told mX10_told [.int (eb_I w)] (T, ty, fa, past, seed, i0, i1, sees, book) n := by
  by_cases y : 0 ≤ w ∧ w ≤ 18
  · have : w = 0 ∨ w = 1 ∨ w = 2 ∨ w = 3 ∨ w = 4 ∨ w = 5 ∨ w = 6 ∨ w = 7 ∨ w = 8 ∨ w = 9 ∨ w = 10 ∨ w = 11 ∨ w = 12 ∨ w = 13 ∨ w = 14 ∨ w = 15 ∨ w = 16 ∨ w = 17 ∨ w = 18 := by omega
    rcases this with rfl | rfl | rfl | rfl | rfl | rfl | rfl | rfl | rfl | rfl | rfl | rfl | rfl | rfl | rfl | rfl | rfl | rfl | rfl
    · exact ⟨_, (T, ty, fa, past, seed, i0, i1, sees, book), HO, fun h HR => x9_told_0 HR HO, fun h HR => x10_told_0 HR HO⟩
    · exact ⟨_, (T, ty, fa, past, seed, i0, i1, sees, book), HO, fun h HR => x9_told_1 HR HO, fun h HR => x10_told_1 HR HO⟩
    · exact ⟨_, (T, ty, fa, past, seed, i0, i1, sees, book), HO, fun h HR => x9_told_2 HR HO, fun h HR => x10_told_2 HR HO⟩
    · exact ⟨_, (T, ty, fa, past, seed, i0, i1, sees, book), HO, fun h HR => x9_told_3 HR HO, fun h HR => x10_told_3 HR HO⟩
    · exact ⟨_, (T, ty, fa, past, seed, i0, i1, sees, book), HO, fun h HR => x9_told_4 HR HO, fun h HR => x10_told_4 HR HO⟩
    · exact ⟨_, (T, ty, fa, past, seed, i0, i1, sees, book), HO, fun h HR => x9_told_5 HR HO, fun h HR => x10_told_5 HR HO⟩
    · exact ⟨_, (T, ty, fa, past, seed, i0, i1, sees, book), HO, fun h HR => x9_told_6 HR HO, fun h HR => x10_told_6 HR HO⟩
    · exact ⟨_, (T, ty, fa, past, seed, i0, i1, sees, book), HO, fun h HR => x9_told_7 HR HO, fun h HR => x10_told_7 HR HO⟩
    · obtain ⟨v, hv⟩ := lc_ex (fc_4 (lt_c (txq T)) T.1.length 1)
      exact ⟨_, (T, ty, fa, past, seed, i0, i1, sees, book), HO, fun h HR => x9_told_8 HR HO hv, fun h HR => x10_told_8 HR HO hv⟩
    · obtain ⟨v, hv⟩ := lc_ex (fc_4 (lt_c (txq T)) T.1.length (-1))
      exact ⟨_, (T, ty, fa, past, seed, i0, i1, sees, book), HO, fun h HR => x9_told_9 HR HO hv, fun h HR => x10_told_9 HR HO hv⟩
    · exact ⟨_, (T, ty, fa, past, seed, i0, i1, sees, book), HO, fun h HR => x9_told_10 HR HO, fun h HR => x10_told_10 HR HO⟩
    · exact ⟨_, (T, ty, fa, past, seed, i0, i1, sees, book), HO, fun h HR => x9_told_11 HR HO, fun h HR => x10_told_11 HR HO⟩
    · exact ⟨_, (T, ty, fa, past, seed, i0, i1, sees, book), HO, fun h HR => x9_told_12 HR HO, fun h HR => x10_told_12 HR HO⟩
    · obtain ⟨v, hv⟩ := lc_ex (fun m => (1 ≤ m ∧ m ≤ 200) ∧ ft ((fun m => br_mk (lt_B (TXq T m))) m) sees = true)
      exact ⟨_, (T, ty, fa, past, seed, i0, i1, sees, book), HO, fun h HR => x9_told_13 HR HO hv, fun h HR => x10_told_13 HR HO hv⟩
    · obtain ⟨v, hv⟩ := gc_ex (fun m => (1 ≤ m ∧ m ≤ 200) ∧ ft ((fun m => br_mk (lt_B (TXq T m))) m) sees = true) 200 (fun m hm => hm.1.2)
      exact ⟨_, (T, ty, fa, past, seed, i0, i1, sees, book), HO, fun h HR => x9_told_14 HR HO hv, fun h HR => x10_told_14 HR HO hv⟩
    · exact ⟨_, (T, ty, fa, past, seed, i0, i1, sees, book), HO, fun h HR => x9_told_15 HR HO, fun h HR => x10_told_15 HR HO⟩
    · exact ⟨_, (T, ty, fa, past, seed, i0, i1, sees, book), HO, fun h HR => x9_told_16 HR HO, fun h HR => x10_told_16 HR HO⟩
    · exact ⟨_, (T, ty, fa, past, seed, i0, i1, sees, book), HO, fun h HR => x9_told_17 HR HO, fun h HR => x10_told_17 HR HO⟩
    · exact ⟨_, (T, ty, fa, past, seed, i0, i1, sees, book), HO, fun h HR => x9_told_18 HR HO, fun h HR => x10_told_18 HR HO⟩
  · exact ⟨_, (T, ty, fa, past, seed, i0, i1, sees, book), HO, fun h HR => x9_told_out HR HO hw y, fun h HR => x10_told_out HR HO hw y⟩
theorem pr_word {w x : Int} (HO : SOK T ty fa past seed i0 i1 sees book) (hw : r32 w) (hx : r32 x) : PR mX9_word mX10_word [.int (eb_I w), .int (eb_I x)] (T, ty, fa, past, seed, i0, i1, sees, book) n := by
  by_cases y : 0 ≤ w ∧ w < (T.1.length : Int)
  · obtain ⟨k, rfl⟩ := n_of y.1
    have hc : k < T.1.length := by omega
    by_cases z : 0 ≤ x ∧ x ≤ 15
    · by_cases z4 : 4 ≤ x
      · obtain ⟨i, hi⟩ := n_of (a := x - 4) (by omega)
        have : x = ((i + 4 : Nat) : Int) := by omega
        subst this
        exact ⟨_, (T, ty, fa, past, seed, i0, i1, sees, book), HO, fun h HR => x9_word_l HR HO hc (by omega), fun h HR => x10_word_l HR HO hc (by omega)⟩
      · have : x = 0 ∨ x = 1 ∨ x = 2 ∨ x = 3 := by omega
        rcases this with rfl | rfl | rfl | rfl
        · exact ⟨_, (T, ty, fa, past, seed, i0, i1, sees, book), HO, fun h HR => x9_word_0 HR HO hc, fun h HR => x10_word_0 HR HO hc⟩
        · exact ⟨_, (T, ty, fa, past, seed, i0, i1, sees, book), HO, fun h HR => x9_word_1 HR HO hc, fun h HR => x10_word_1 HR HO hc⟩
        · exact ⟨_, (T, ty, fa, past, seed, i0, i1, sees, book), HO, fun h HR => x9_word_2 HR HO hc, fun h HR => x10_word_2 HR HO hc⟩
        · obtain ⟨v, hv⟩ := lc_ex (fun m => (1 ≤ m ∧ m ≤ 50) ∧ br_mk (gw_B T k m) ≠ br_mk (gw_B T k 0))
          exact ⟨_, (T, ty, fa, past, seed, i0, i1, sees, book), HO, fun h HR => x9_word_3 HR HO hc hv, fun h HR => x10_word_3 HR HO hc hv⟩
    · exact ⟨_, (T, ty, fa, past, seed, i0, i1, sees, book), HO, fun h HR => x9_word_out HR HO hc hx z, fun h HR => x10_word_out HR HO hc hx z⟩
  · exact ⟨_, (T, ty, fa, past, seed, i0, i1, sees, book), HO, fun h HR => x9_word_unk HR HO hw y, fun h HR => x10_word_unk HR HO hw y⟩
theorem pr_end {e w : Int} (HO : SOK T ty fa past seed i0 i1 sees book) (he : r32 e) (hw : r32 w) : PR mX9_end mX10_end [.int (eb_I e), .int (eb_I w)] (T, ty, fa, past, seed, i0, i1, sees, book) n := by
  by_cases y : 0 ≤ e ∧ e ≤ (T.1.length : Int)
  · obtain ⟨k, rfl⟩ := n_of y.1
    have hc : k ≤ T.1.length := by omega
    by_cases z : 0 ≤ w ∧ w ≤ 2
    · have : w = 0 ∨ w = 1 ∨ w = 2 := by omega
      rcases this with rfl | rfl | rfl
      · exact ⟨_, (T, ty, fa, past, seed, i0, i1, sees, book), HO, fun h HR => x9_end_0 HR HO hc, fun h HR => x10_end_0 HR HO hc⟩
      · exact ⟨_, (T, ty, fa, past, seed, i0, i1, sees, book), HO, fun h HR => x9_end_1 HR HO hc, fun h HR => x10_end_1 HR HO hc⟩
      · exact ⟨_, (T, ty, fa, past, seed, i0, i1, sees, book), HO, fun h HR => x9_end_2 HR HO hc, fun h HR => x10_end_2 HR HO hc⟩
    · exact ⟨_, (T, ty, fa, past, seed, i0, i1, sees, book), HO, fun h HR => x9_end_out HR HO hc hw z, fun h HR => x10_end_out HR HO hc hw z⟩
  · exact ⟨_, (T, ty, fa, past, seed, i0, i1, sees, book), HO, fun h HR => x9_end_unk HR HO he y, fun h HR => x10_end_unk HR HO he y⟩
theorem pr_line {k w : Int} (HO : SOK T ty fa past seed i0 i1 sees book) (hk : r32 k) (hw : r32 w) : PR mX9_line mX10_line [.int (eb_I k), .int (eb_I w)] (T, ty, fa, past, seed, i0, i1, sees, book) n := by
  by_cases y : 0 ≤ k ∧ k < ((lt_B (txq T)).length : Int)
  · obtain ⟨j, rfl⟩ := n_of y.1
    have hc : j < (lt_B (txq T)).length := by omega
    by_cases z : 0 ≤ w ∧ w ≤ 3
    · have : w = 0 ∨ w = 1 ∨ w = 2 ∨ w = 3 := by omega
      rcases this with rfl | rfl | rfl | rfl
      · exact ⟨_, (T, ty, fa, past, seed, i0, i1, sees, book), HO, fun h HR => x9_line_0 HR HO hc, fun h HR => x10_line_0 HR HO hc⟩
      · exact ⟨_, (T, ty, fa, past, seed, i0, i1, sees, book), HO, fun h HR => x9_line_1 HR HO hc, fun h HR => x10_line_1 HR HO hc⟩
      · exact ⟨_, (T, ty, fa, past, seed, i0, i1, sees, book), HO, fun h HR => x9_line_2 HR HO hc, fun h HR => x10_line_2 HR HO hc⟩
      · exact ⟨_, (T, ty, fa, past, seed, i0, i1, sees, book), HO, fun h HR => x9_line_3 HR HO hc, fun h HR => x10_line_3 HR HO hc⟩
    · exact ⟨_, (T, ty, fa, past, seed, i0, i1, sees, book), HO, fun h HR => x9_line_out HR HO hc hw z, fun h HR => x10_line_out HR HO hc hw z⟩
  · exact ⟨_, (T, ty, fa, past, seed, i0, i1, sees, book), HO, fun h HR => x9_line_unk HR HO hk y, fun h HR => x10_line_unk HR HO hk y⟩
theorem rd1_one {R : Nat × Int × List (List Nat)} (hok : rd_inv R.2.2 0 ∧ R.1 ≤ 3) (hb : rd1 R = 0) : sp_ok (R.2.2.getD 0 []) ∧ 0 < (R.2.2.getD 0 []).length := by
  obtain ⟨r0, r1⟩ := rd1_0 hb hok.2
  have hlen0 : 0 < R.2.2.length := by omega
  have eD : R.2.2.getD 0 [] = R.2.2[0] := by simp [hlen0]
  rw [eD]
  exact hok.1.2.2.1 _ (List.getElem_mem hlen0)
theorem pr_change {w : Int} (HO : SOK T ty fa past seed i0 i1 sees book) (hw : r32 w) : PR mX9_change mX10_change [.int (eb_I w)] (T, ty, fa, past, seed, i0, i1, sees, book) n := by
  have hok := rd_ok ty 0 [] 0 rd_inv_0
  by_cases y : 0 ≤ w ∧ w < (T.1.length : Int)
  · by_cases z : rd1 (rd ty 0 [] 0) = 0
    · obtain ⟨k, rfl⟩ := n_of y.1
      have hc : k < T.1.length := by omega
      exact ⟨_, ((T.1.set k ((rd ty 0 [] 0).2.2.getD 0 []), T.2), [], (rd ty 0 [] 0).2.1, (T :: past).take 16, seed, i0, i1, sees, book), (HO.read).deed (TX_set HO.1 (rd1_one ⟨hok.1, hok.2.1⟩ z)), fun h HR => x9_change_ok HR HO hc z, fun h HR => x10_change_ok HR HO hc z⟩
    · exact ⟨_, (T, [], (rd ty 0 [] 0).2.1, past, seed, i0, i1, sees, book), HO.read, fun h HR => x9_change_bad HR HO hw y z, fun h HR => x10_change_bad HR HO hw y z⟩
  · exact ⟨_, (T, ty, fa, past, seed, i0, i1, sees, book), HO, fun h HR => x9_change_unk HR HO hw y, fun h HR => x10_change_unk HR HO hw y⟩
theorem pr_insert {w : Int} (HO : SOK T ty fa past seed i0 i1 sees book) (hw : r32 w) : PR mX9_insert mX10_insert [.int (eb_I w)] (T, ty, fa, past, seed, i0, i1, sees, book) n := by
  have hok := rd_ok ty 0 [] 0 rd_inv_0
  by_cases y : 0 ≤ w ∧ w ≤ (T.1.length : Int)
  · by_cases z : rd1 (rd ty 0 [] 0) = 0
    · obtain ⟨k, rfl⟩ := n_of y.1
      have hc : k ≤ T.1.length := by omega
      by_cases z2 : T.1.length < 40
      · exact ⟨_, ((T.1.take k ++ (rd ty 0 [] 0).2.2.getD 0 [] :: T.1.drop k, T.2), [], (rd ty 0 [] 0).2.1, (T :: past).take 16, seed, i0, i1, sees, book), (HO.read).deed (TX_ins HO.1 (rd1_one ⟨hok.1, hok.2.1⟩ z) z2), fun h HR => x9_insert_ok HR HO hc z2 z, fun h HR => x10_insert_ok HR HO hc z2 z⟩
      · have z3 : 40 ≤ T.1.length := by omega
        exact ⟨_, (T, [], (rd ty 0 [] 0).2.1, past, seed, i0, i1, sees, book), HO.read, fun h HR => x9_insert_full HR HO hc z3 z, fun h HR => x10_insert_full HR HO hc z3 z⟩
    · exact ⟨_, (T, [], (rd ty 0 [] 0).2.1, past, seed, i0, i1, sees, book), HO.read, fun h HR => x9_insert_bad HR HO hw y z, fun h HR => x10_insert_bad HR HO hw y z⟩
  · exact ⟨_, (T, ty, fa, past, seed, i0, i1, sees, book), HO, fun h HR => x9_insert_unk HR HO hw y, fun h HR => x10_insert_unk HR HO hw y⟩
theorem pr_take {w : Int} (HO : SOK T ty fa past seed i0 i1 sees book) (hw : r32 w) : PR mX9_take mX10_take [.int (eb_I w)] (T, ty, fa, past, seed, i0, i1, sees, book) n := by
  by_cases y : 0 ≤ w ∧ w < (T.1.length : Int)
  · obtain ⟨k, rfl⟩ := n_of y.1
    have hc : k < T.1.length := by omega
    exact ⟨_, ((T.1.take k ++ T.1.drop (k + 1), T.2), ty, fa, (T :: past).take 16, seed, i0, i1, sees, book), HO.deed (TX_del HO.1), fun h HR => x9_take_ok HR HO hc, fun h HR => x10_take_ok HR HO hc⟩
  · exact ⟨_, (T, ty, fa, past, seed, i0, i1, sees, book), HO, fun h HR => x9_take_unk HR HO hw y, fun h HR => x10_take_unk HR HO hw y⟩
theorem pr_measure {v : Int} (HO : SOK T ty fa past seed i0 i1 sees book) (hv : r32 v) : PR mX9_measure mX10_measure [.int (eb_I v)] (T, ty, fa, past, seed, i0, i1, sees, book) n := by
  by_cases y : 1 ≤ v ∧ v ≤ 200
  · exact ⟨_, ((T.1, v, T.2.2.1, T.2.2.2.1, T.2.2.2.2), ty, fa, (T :: past).take 16, seed, i0, i1, sees, book), HO.deed ⟨⟨HO.1.1.1, y, HO.1.1.2.2⟩, HO.1.2⟩, fun h HR => x9_measure_ok HR HO y, fun h HR => x10_measure_ok HR HO y⟩
  · exact ⟨_, (T, ty, fa, past, seed, i0, i1, sees, book), HO, fun h HR => x9_measure_out HR HO hv y, fun h HR => x10_measure_out HR HO hv y⟩
theorem pr_rule {v : Int} (HO : SOK T ty fa past seed i0 i1 sees book) (hv : r32 v) : PR mX9_rule mX10_rule [.int (eb_I v)] (T, ty, fa, past, seed, i0, i1, sees, book) n := by
  by_cases y : 0 ≤ v ∧ v ≤ 4
  · exact ⟨_, ((T.1, T.2.1, v, T.2.2.2.1, T.2.2.2.2), ty, fa, (T :: past).take 16, seed, i0, i1, sees, book), HO.deed ⟨⟨HO.1.1.1, HO.1.1.2.1, y, HO.1.1.2.2.2⟩, HO.1.2⟩, fun h HR => x9_rule_ok HR HO y, fun h HR => x10_rule_ok HR HO y⟩
  · exact ⟨_, (T, ty, fa, past, seed, i0, i1, sees, book), HO, fun h HR => x9_rule_out HR HO hv y, fun h HR => x10_rule_out HR HO hv y⟩
theorem pr_fee {v : Int} (HO : SOK T ty fa past seed i0 i1 sees book) (hv : r32 v) : PR mX9_fee mX10_fee [.int (eb_I v)] (T, ty, fa, past, seed, i0, i1, sees, book) n := by
  by_cases y : 0 ≤ v ∧ v ≤ 99
  · exact ⟨_, ((T.1, T.2.1, T.2.2.1, v, T.2.2.2.2), ty, fa, (T :: past).take 16, seed, i0, i1, sees, book), HO.deed ⟨⟨HO.1.1.1, HO.1.1.2.1, HO.1.1.2.2.1, y, HO.1.1.2.2.2.2⟩, HO.1.2⟩, fun h HR => x9_fee_ok HR HO y, fun h HR => x10_fee_ok HR HO y⟩
  · exact ⟨_, (T, ty, fa, past, seed, i0, i1, sees, book), HO, fun h HR => x9_fee_out HR HO hv y, fun h HR => x10_fee_out HR HO hv y⟩
theorem pr_free {v : Int} (HO : SOK T ty fa past seed i0 i1 sees book) (y : 0 ≤ v ∧ v ≤ 1) : PR mX9_free mX10_free [.int (eb_I v)] (T, ty, fa, past, seed, i0, i1, sees, book) n :=
  ⟨_, ((T.1, T.2.1, T.2.2.1, T.2.2.2.1, v), ty, fa, (T :: past).take 16, seed, i0, i1, sees, book), HO.deed ⟨⟨HO.1.1.1, HO.1.1.2.1, HO.1.1.2.2.1, HO.1.1.2.2.2.1, (show v = 0 ∨ v = 1 by omega)⟩, HO.1.2⟩, fun h HR => x9_free_ok HR HO y, fun h HR => x10_free_ok HR HO y⟩
theorem pr_drift {v : Int} (HO : SOK T ty fa past seed i0 i1 sees book) (hv : r32 v) : PR mX9_drift mX10_drift [.int (eb_I v)] (T, ty, fa, past, seed, i0, i1, sees, book) n := by
  by_cases y : 1 ≤ v ∧ v ≤ 16
  · obtain ⟨m, rfl⟩ := n_of (a := v) (by omega)
    refine ⟨_, ((dr_N T past seed m).1, ty, fa, (dr_N T past seed m).2.1, (dr_N T past seed m).2.2, i0, i1, sees, book), ?_, fun h HR => x9_drift_ok HR HO (by omega), fun h HR => x10_drift_ok HR HO (by omega)⟩
    obtain ⟨HT, hty, hfa, hpo, hsd, hg0, hg1, hsu, hbk⟩ := HO
    obtain ⟨o1, o2, o3⟩ := dr_N_ok (s := seed) HT hpo hsd m
    exact ⟨o1, hty, hfa, o2, o3, hg0, hg1, hsu, hbk⟩
  · exact ⟨_, (T, ty, fa, past, seed, i0, i1, sees, book), HO, fun h HR => x9_drift_out HR hv y, fun h HR => x10_drift_out HR HO hv y⟩
theorem pr_undo {v : Int} (HO : SOK T ty fa past seed i0 i1 sees book) (hv : r32 v) : PR mX9_undo mX10_undo [.int (eb_I v)] (T, ty, fa, past, seed, i0, i1, sees, book) n := by
  by_cases y : 1 ≤ v ∧ v ≤ 16
  · obtain ⟨m, rfl⟩ := n_of (a := v) (by omega)
    by_cases z : m ≤ past.length
    · refine ⟨_, (past[m - 1]'(by omega), ty, fa, past.drop m, seed, i0, i1, sees, book), ?_, fun h HR => x9_undo_ok HR HO (by omega) z, fun h HR => x10_undo_ok HR HO (by omega) z⟩
      obtain ⟨HT, hty, hfa, hpo, hsd, hg0, hg1, hsu, hbk⟩ := HO
      exact ⟨hpo.2 _ (List.getElem_mem _), hty, hfa, ⟨by rw [List.length_drop]; omega, fun x hx => hpo.2 x (List.mem_of_mem_drop hx)⟩, hsd, hg0, hg1, hsu, hbk⟩
    · have z3 : past.length < m := by omega
      exact ⟨_, (T, ty, fa, past, seed, i0, i1, sees, book), HO, fun h HR => x9_undo_not HR HO (by omega) z3, fun h HR => x10_undo_not HR HO (by omega) z3⟩
  · exact ⟨_, (T, ty, fa, past, seed, i0, i1, sees, book), HO, fun h HR => x9_undo_out HR hv y, fun h HR => x10_undo_out HR HO hv y⟩
theorem pr_cost {i j : Int} (HO : SOK T ty fa past seed i0 i1 sees book) (hi : r32 i) (hj : r32 j) : PR mX9_cost mX10_cost [.int (eb_I i), .int (eb_I j)] (T, ty, fa, past, seed, i0, i1, sees, book) n := by
  by_cases y : 0 ≤ i ∧ i < j ∧ j ≤ (T.1.length : Int)
  · obtain ⟨a, rfl⟩ := n_of y.1
    obtain ⟨b, rfl⟩ := n_of (a := j) (by omega)
    have z3 : b ≤ T.1.length := by omega
    exact ⟨_, (T, ty, fa, past, seed, i0, i1, sees, book), HO, fun h HR => x9_cost_ok HR HO (by omega) z3, fun h HR => x10_cost_ok HR HO (by omega) z3⟩
  · exact ⟨_, (T, ty, fa, past, seed, i0, i1, sees, book), HO, fun h HR => x9_cost_unk HR HO hi hj y, fun h HR => x10_cost_unk HR HO hi hj y⟩
theorem pr_known {i j : Int} (HO : SOK T ty fa past seed i0 i1 sees book) (hi : r32 i) (hj : r32 j) : PR mX9_known mX10_known [.int (eb_I i), .int (eb_I j)] (T, ty, fa, past, seed, i0, i1, sees, book) n := by
  by_cases y : 0 ≤ j ∧ j < i ∧ i ≤ (T.1.length : Int)
  · obtain ⟨b, rfl⟩ := n_of y.1
    obtain ⟨a, rfl⟩ := n_of (a := i) (by omega)
    have z3 : a ≤ T.1.length := by omega
    exact ⟨_, (T, ty, fa, past, seed, i0, i1, sees, book), HO, fun h HR => x9_known_ok HR HO (by omega) z3, fun h HR => x10_known_ok HR HO (by omega) z3⟩
  · exact ⟨_, (T, ty, fa, past, seed, i0, i1, sees, book), HO, fun h HR => x9_known_unk HR HO hi hj y, fun h HR => x10_known_unk HR HO hi hj y⟩
theorem pr_first {w : Int} (HO : SOK T ty fa past seed i0 i1 sees book) (hw : r32 w) : PR mX9_first mX10_first [.int (eb_I w)] (T, ty, fa, past, seed, i0, i1, sees, book) n := by
  by_cases y : 0 ≤ w ∧ w ≤ 1
  · have : w = 0 ∨ w = 1 := by omega
    rcases this with rfl | rfl
    · obtain ⟨v, hv⟩ := lc_ex (fc_4 (lt_c (txq T)) T.1.length 1)
      exact ⟨_, (T, ty, fa, past, seed, i0, i1, sees, book), HO, fun h HR => x9_first_0 HR HO hv, fun h HR => x10_first_0 HR HO hv⟩
    · obtain ⟨v, hv⟩ := lc_ex (fc_4 (lt_c (txq T)) T.1.length (-1))
      exact ⟨_, (T, ty, fa, past, seed, i0, i1, sees, book), HO, fun h HR => x9_first_1 HR HO hv, fun h HR => x10_first_1 HR HO hv⟩
  · exact ⟨_, (T, ty, fa, past, seed, i0, i1, sees, book), HO, fun h HR => x9_first_out HR HO hw y, fun h HR => x10_first_out HR HO hw y⟩
theorem pr_with {k : Int} (HO : SOK T ty fa past seed i0 i1 sees book) (hk : r32 k) : PR mX9_with mX10_with [.int (eb_I k)] (T, ty, fa, past, seed, i0, i1, sees, book) n := by
  by_cases y : 1 ≤ k ∧ k ≤ 40
  · obtain ⟨a, rfl⟩ := n_of (a := k) (by omega)
    exact ⟨_, (T, ty, fa, past, seed, i0, i1, sees, book), HO, fun h HR => x9_with_ok HR HO (by omega), fun h HR => x10_with_ok HR HO (by omega)⟩
  · exact ⟨_, (T, ty, fa, past, seed, i0, i1, sees, book), HO, fun h HR => x9_with_out HR HO hk y, fun h HR => x10_with_out HR HO hk y⟩
theorem pr_best {a b w : Int} (HO : SOK T ty fa past seed i0 i1 sees book) (ha : r32 a) (hb : r32 b) (hw : r32 w) : PR mX9_best mX10_best [.int (eb_I a), .int (eb_I b), .int (eb_I w)] (T, ty, fa, past, seed, i0, i1, sees, book) n := by
  by_cases y : 1 ≤ a ∧ b ≤ 200 ∧ a ≤ b ∧ 0 ≤ w ∧ w ≤ 1
  · obtain ⟨i, rfl⟩ := n_of (a := a) (by omega)
    obtain ⟨d, hd⟩ := n_of (a := b - i) (by omega)
    have : b = ((i + d : Nat) : Int) := by omega
    subst this
    have : w = 0 ∨ w = 1 := by omega
    rcases this with rfl | rfl
    · exact ⟨_, (T, ty, fa, past, seed, i0, i1, sees, book), HO, fun h HR => x9_best_0 HR HO (by omega) (by omega), fun h HR => x10_best_0 HR HO (by omega) (by omega)⟩
    · exact ⟨_, (T, ty, fa, past, seed, i0, i1, sees, book), HO, fun h HR => x9_best_1 HR HO (by omega) (by omega), fun h HR => x10_best_1 HR HO (by omega) (by omega)⟩
  · exact ⟨_, (T, ty, fa, past, seed, i0, i1, sees, book), HO, fun h HR => x9_best_out HR HO ha hb hw y, fun h HR => x10_best_out HR HO ha hb hw y⟩
theorem pr_see {e : Int} {x : Bool} (HO : SOK T ty fa past seed i0 i1 sees book) (he : r32 e) : PR mX9_see mX10_see [.int (eb_I e), .int (eb_I (if x then 1 else 0))] (T, ty, fa, past, seed, i0, i1, sees, book) n := by
  by_cases y : 0 ≤ e ∧ e ≤ (T.1.length : Int)
  · obtain ⟨k, rfl⟩ := n_of y.1
    have hc : k ≤ T.1.length := by omega
    refine ⟨_, (T, ty, fa, past, seed, i0, i1, (if 6 ≤ sees.length then sees else sees ++ [(k, x)]), book), ?_, fun h HR => x9_see_ok HR HO hc, fun h HR => x10_see_ok HR HO hc⟩
    obtain ⟨HT, hty, hfa, hpo, hsd, hg0, hg1, hsu, hbk⟩ := HO
    have hN : T.1.length ≤ 40 := HT.1.1
    refine ⟨HT, hty, hfa, hpo, hsd, hg0, hg1, ?_, hbk⟩
    by_cases z : 6 ≤ sees.length
    · simp only [if_pos z]; exact hsu
    · simp only [if_neg z]
      refine ⟨by simp; omega, fun q hq => ?_⟩
      rcases List.mem_append.mp hq with r | r
      · exact hsu.2 q r
      · rw [List.mem_singleton.mp r]; show k ≤ 40; omega
  · exact ⟨_, (T, ty, fa, past, seed, i0, i1, sees, book), HO, fun h HR => x9_see_unk HR HO he y, fun h HR => x10_see_unk HR HO he y⟩
theorem pr_write {k e : Int} (HO : SOK T ty fa past seed i0 i1 sees book) (hk : r32 k) (he : r32 e) : PR mX9_write mX10_write [.int (eb_I k), .int (eb_I e)] (T, ty, fa, past, seed, i0, i1, sees, book) n := by
  by_cases y : -1 ≤ e ∧ e ≤ (T.1.length : Int)
  · by_cases y2 : 0 ≤ k ∧ k < 40
    · refine ⟨_, (T, ty, fa, past, seed, i0, i1, sees, (if 20 ≤ book.length then book else book ++ [(k, e)])), ?_, fun h HR => x9_write_ok HR HO y y2, fun h HR => x10_write_ok HR HO y y2⟩
      obtain ⟨HT, hty, hfa, hpo, hsd, hg0, hg1, hsu, hbk⟩ := HO
      have hN : T.1.length ≤ 40 := HT.1.1
      refine ⟨HT, hty, hfa, hpo, hsd, hg0, hg1, hsu, ?_⟩
      by_cases z : 20 ≤ book.length
      · simp only [if_pos z]; exact hbk
      · simp only [if_neg z]
        refine ⟨by simp; omega, fun q hq => ?_⟩
        rcases List.mem_append.mp hq with r | r
        · exact hbk.2 q r
        · rw [List.mem_singleton.mp r]
          exact ⟨y2, y.1, by show e ≤ 40; omega⟩
    · exact ⟨_, (T, ty, fa, past, seed, i0, i1, sees, book), HO, fun h HR => x9_write_out HR HO hk y y2, fun h HR => x10_write_out HR HO hk y y2⟩
  · exact ⟨_, (T, ty, fa, past, seed, i0, i1, sees, book), HO, fun h HR => x9_write_unk HR HO hk he y, fun h HR => x10_write_unk HR HO hk he y⟩
theorem pr_tear (HO : SOK T ty fa past seed i0 i1 sees book) : PR mX9_tear mX10_tear [] (T, ty, fa, past, seed, i0, i1, sees, book) n := by
  refine ⟨_, (T, ty, fa, past, seed, i0, i1, [], []), ?_, fun h HR => x9_tear HR HO, fun h HR => x10_tear HR HO⟩
  obtain ⟨HT, hty, hfa, hpo, hsd, hg0, hg1, hsu, hbk⟩ := HO
  exact ⟨HT, hty, hfa, hpo, hsd, hg0, hg1, ⟨by simp, by simp⟩, ⟨by simp, by simp⟩⟩
theorem pr_seed {v : Int} (HO : SOK T ty fa past seed i0 i1 sees book) (hv : r32 v) : PR mX9_seed mX10_seed [.int (eb_I v)] (T, ty, fa, past, seed, i0, i1, sees, book) n := by
  by_cases y : v < 0
  · exact ⟨_, (T, ty, fa, past, seed, i0, i1, sees, book), HO, fun h HR => x9_seed_out HR hv y, fun h HR => x10_seed_out HR HO hv y⟩
  · refine ⟨_, (T, ty, fa, past, v, i0, i1, sees, book), ?_, fun h HR => x9_seed_ok HR hv (by omega), fun h HR => x10_seed_ok HR HO hv (by omega)⟩
    obtain ⟨HT, hty, hfa, hpo, hsd, hg0, hg1, hsu, hbk⟩ := HO
    exact ⟨HT, hty, hfa, hpo, ⟨(show 0 ≤ v by omega), hv.2⟩, hg0, hg1, hsu, hbk⟩
theorem pr_keep {v : Int} (HO : SOK T ty fa past seed i0 i1 sees book) (hv : r32 v) : PR mX9_keep mX10_keep [.int (eb_I v)] (T, ty, fa, past, seed, i0, i1, sees, book) n := by
  by_cases y : 0 ≤ v ∧ v ≤ 1
  · have gi : img_ok (some (T, seed)) := fun q hq => by
      have : (T, seed) = q := Option.some.inj hq
      rw [← this]
      exact ⟨HO.1, HO.2.2.2.2.1⟩
    have : v = 0 ∨ v = 1 := by omega
    rcases this with rfl | rfl
    · refine ⟨_, (T, ty, fa, [], seed, some (T, seed), i1, sees, book), ?_, fun h HR => x9_keep_0 HR HO, fun h HR => x10_keep_0 HR HO⟩
      obtain ⟨HT, hty, hfa, hpo, hsd, hg0, hg1, hsu, hbk⟩ := HO
      exact ⟨HT, hty, hfa, ⟨by simp, by simp⟩, hsd, gi, hg1, hsu, hbk⟩
    · refine ⟨_, (T, ty, fa, [], seed, i0, some (T, seed), sees, book), ?_, fun h HR => x9_keep_1 HR HO, fun h HR => x10_keep_1 HR HO⟩
      obtain ⟨HT, hty, hfa, hpo, hsd, hg0, hg1, hsu, hbk⟩ := HO
      exact ⟨HT, hty, hfa, ⟨by simp, by simp⟩, hsd, hg0, gi, hsu, hbk⟩
  · exact ⟨_, (T, ty, fa, past, seed, i0, i1, sees, book), HO, fun h HR => x9_keep_unk HR hv y, fun h HR => x10_keep_unk HR HO hv y⟩
theorem pr_goBack {v : Int} (HO : SOK T ty fa past seed i0 i1 sees book) (hv : r32 v) : PR mX9_goBack mX10_goBack [.int (eb_I v)] (T, ty, fa, past, seed, i0, i1, sees, book) n := by
  by_cases y : 0 ≤ v ∧ v ≤ 1
  · have : v = 0 ∨ v = 1 := by omega
    rcases this with rfl | rfl
    · cases i0 with
      | none => exact ⟨_, (T, ty, fa, past, seed, none, i1, sees, book), HO, fun h HR => x9_goBack_not_0 HR, fun h HR => x10_goBack_not_0 HR HO⟩
      | some q =>
        refine ⟨_, (q.1, ty, fa, [], q.2, some q, i1, sees, book), ?_, fun h HR => x9_goBack_0 HR HO, fun h HR => x10_goBack_0 HR HO⟩
        obtain ⟨HT, hty, hfa, hpo, hsd, hg0, hg1, hsu, hbk⟩ := HO
        exact ⟨(hg0 q rfl).1, hty, hfa, ⟨by simp, by simp⟩, (hg0 q rfl).2, hg0, hg1, hsu, hbk⟩
    · cases i1 with
      | none => exact ⟨_, (T, ty, fa, past, seed, i0, none, sees, book), HO, fun h HR => x9_goBack_not_1 HR, fun h HR => x10_goBack_not_1 HR HO⟩
      | some q =>
        refine ⟨_, (q.1, ty, fa, [], q.2, i0, some q, sees, book), ?_, fun h HR => x9_goBack_1 HR HO, fun h HR => x10_goBack_1 HR HO⟩
        obtain ⟨HT, hty, hfa, hpo, hsd, hg0, hg1, hsu, hbk⟩ := HO
        exact ⟨(hg1 q rfl).1, hty, hfa, ⟨by simp, by simp⟩, (hg1 q rfl).2, hg0, hg1, hsu, hbk⟩
  · exact ⟨_, (T, ty, fa, past, seed, i0, i1, sees, book), HO, fun h HR => x9_goBack_unk HR hv y, fun h HR => x10_goBack_unk HR HO hv y⟩
end PRS
theorem MS.kept {h h' : eb_H} {S : SS} (H : MS h S) (k : F67 h h') : MS h' S := by
  obtain ⟨c, a1, a2, a3, a4, a5, a6, a7, a8, a9, a10, a11⟩ := H
  exact ⟨c, (k 67 (by omega)).trans a1, a2, a3.kept (k _ (by omega)), a4.kept (k _ (by omega)), a5.kept (k _ (by omega)), a6.kept (k _ (by omega)) (k _ (by omega)), a7.kept (fun j x y => k j (by omega)), a8.kept (k _ (by omega)), a9.kept (k _ (by omega)), a10.kept (k _ (by omega)) (k _ (by omega)), a11.kept (k _ (by omega)) (k _ (by omega))⟩
theorem XS.kept {h h' : eb_H} {S : SS} (H : XS h S) (k : L67 h h') : XS h' S := by
  obtain ⟨HX, HT, HY, HP, HD, HB, HN, HL, HS, HI0, HI1⟩ := id H
  exact XR.re H (fun j _ _ => k j (by omega)) (fun j _ _ => k j (by omega)) (HN.kept (fun j _ _ => k j (by omega))) (HL.kept (k _ (by omega)) (fun j _ _ => k j (by omega))) (HS.kept (fun j _ _ => k j (by omega)))
