def mw (f : Nat → Int) (w : Nat) (l : List Nat) : Prop := f (5 + w) = (l.length : Int) ∧ ∀ k (hk : k < l.length), f (45 + 12 * w + k) = (l[k] : Int)
def nw (ns nl : Nat → Int) (i : Nat) (l : List Nat) : Prop := ns i = (l.length : Int) ∧ ∀ k (hk : k < l.length), nl (12 * i + k) = (l[k] : Int)
def oth (f f' : Nat → Int) (w : Nat) : Prop := ∀ j, j ≠ 5 + w → ¬ (45 + 12 * w ≤ j ∧ j < 57 + 12 * w) → f' j = f j
theorem oth.set5 {f f' : Nat → Int} {w : Nat} {x : Int} (H : oth f f' w) : oth f (eb_set f' (5 + w) x) w := fun j a b => by
  unfold eb_set; rw [if_neg a]; exact H j a b
theorem oth.setL {f f' : Nat → Int} {w k : Nat} {x : Int} (H : oth f f' w) (hk : k < 12) : oth f (eb_set f' (45 + 12 * w + k) x) w := fun j a b => by
  unfold eb_set; rw [if_neg (by omega)]; exact H j a b
theorem oth.mw {f f' : Nat → Int} {w v : Nat} {l : List Nat} (H : oth f f' w) (hw : mw f v l) (hv : v < 40) (hw4 : w < 40) (hn : v ≠ w) (hl : l.length ≤ 12) : mw f' v l :=
  ⟨(H _ (by omega) (by omega)).trans hw.1, fun k hk => (H _ (by omega) (by omega)).trans (hw.2 k hk)⟩
theorem ms.cg {f g : Nat → Int} {T : TX} (H : ms f T) (HO : TX_ok T) (e : ∀ k, k < 525 → g k = f k) : ms g T := by
  have hN : T.1.length ≤ 40 := HO.1.1
  obtain ⟨a0, a1, a2, a3, a4, a5⟩ := H
  refine ⟨(e 0 (by omega)).trans a0, (e 1 (by omega)).trans a1, (e 2 (by omega)).trans a2, (e 3 (by omega)).trans a3, (e 4 (by omega)).trans a4, fun w hw => ?_⟩
  have hl := (HO.2 T.1[w] (List.getElem_mem hw)).1.2
  exact ⟨(e _ (by omega)).trans (a5 w hw).1, fun k hk => (e _ (by omega)).trans ((a5 w hw).2 k hk)⟩
def mp (pf : Nat → Int) (past : List TX) : Prop := ∀ i (hi : i < past.length), ms (fun k => pf (525 * (past.length - 1 - i) + k)) past[i]
section M9
variable {n : Nat} {h : eb_H} {c : Nat → Int} {sf : Nat → Int} {T : TX}
theorem c_X10_takeWord {ns nl : Nat → Int} {w i : Nat} {l : List Nat} (H_this : h 67 = mo c) (H_this_st : h 68 = eb_ia 525 sf) (H_ns : h 71 = eb_ia 40 ns) (H_nl : h 72 = eb_ia 480 nl) (hw : w < 40) (hi : i < 40) (hl : l.length ≤ 12) (hnw : nw ns nl i l) : eb_T mX10_takeWord [.ref 67, .int (eb_I (w : Int)), .int (eb_I (i : Int))] n h (eb_G none n (fun h' => (∃ f, h' 68 = eb_ia 525 f ∧ mw f w l ∧ oth sf f w) ∧ ∀ k, k ≠ 68 → h' k = h k)) := by
  refine eb_T.of (by decide +kernel) (Nat.le_of_ble_eq_true rfl) ?_
  show eb_V _ _ 0 [.ref 67, .int (eb_I (w : Int)), .int (eb_I (i : Int)), eb_no] [] (n, 0, 0) h _
  have H_this_newSizes := H_ns
  have H_this_newLetters := H_nl
  obtain ⟨w1, w2⟩ := hnw
  have n5 : ((5 : Int) + (w : Int)).toNat = 5 + w := by omega
  have loop : ∀ (d k : Nat) (h1 : eb_H) (f : Nat → Int), k + d = 12 → h1 68 = eb_ia 525 f → (∀ j, j ≠ 68 → h1 j = h j) → oth sf f w → f (5 + w) = (l.length : Int) → (∀ j (hj : j < l.length), j < k → f (45 + 12 * w + j) = (l[j] : Int)) → eb_V mX10_takeWord (fun _ _ _ => True) 16 [.ref 67, .int (eb_I (w : Int)), .int (eb_I (i : Int)), .int (eb_I (k : Int))] [] (n, 0, 0) h1 (eb_R mX10_takeWord (eb_G none n (fun h' => (∃ f, h' 68 = eb_ia 525 f ∧ mw f w l ∧ oth sf f w) ∧ ∀ k, k ≠ 68 → h' k = h k))) := by
    intro d
    induction d with
    | zero =>
      intro k h1 f hk A1 A2 A3 A4 A5
      refine V_iload_n eX10_takeWord_16 rfl rfl ?_
      refine V_bipush eX10_takeWord_17 (by decide) ?_
      refine V_icmp_ge (tgt := 67) eX10_takeWord_19 rfl (by omega) (fun c_19 => ?_) (fun c_19 => ?_)
      · exact V_vret eX10_takeWord_67 ⟨Nat.zero_le _, Nat.zero_le _⟩ rfl (⟨rfl, rfl, ⟨f, A1, ⟨A4, fun j hj => A5 j hj (by omega)⟩, A3⟩, A2⟩)
      · exact absurd (by omega) c_19
    | succ d ih =>
      intro k h1 f hk A1 A2 A3 A4 A5
      have H_this_st := A1
      have H_this : h1 67 = mo c := (A2 67 (by omega)).trans H_this
      have H_this_newSizes : h1 71 = _ := (A2 71 (by omega)).trans H_ns
      have H_this_newLetters : h1 72 = _ := (A2 72 (by omega)).trans H_nl
      have n1 : ((45 : Int) + 12 * (w : Int) + (k : Int)).toNat = 45 + 12 * w + k := by omega
      have n2 : ((12 : Int) * (i : Int) + (k : Int)).toNat = 12 * i + k := by omega
      have nx : ∀ v : Int, (∀ hk : k < l.length, v = (l[k] : Int)) → eb_V mX10_takeWord (fun _ _ _ => True) 16 [.ref 67, .int (eb_I (w : Int)), .int (eb_I (i : Int)), .int (eb_I ((k + 1 : Nat) : Int))] [] (n, 0, 0) (eb_up h1 68 (eb_ia 525 (eb_set f (45 + 12 * w + k) v))) (eb_R mX10_takeWord (eb_G none n (fun h' => (∃ f, h' 68 = eb_ia 525 f ∧ mw f w l ∧ oth sf f w) ∧ ∀ k, k ≠ 68 → h' k = h k))) := fun v hv => ih (k + 1) _ _ (by omega) eb_up_s (fun j hj => eb_up_n hj (A2 j hj)) (A3.setL (by omega)) (by unfold eb_set; rw [if_neg (by omega)]; exact A4) (fun j hj hjk => by
        unfold eb_set
        by_cases y : j = k
        · subst y
          rw [if_pos rfl]
          exact hv hj
        · rw [if_neg (by omega)]
          exact A5 j hj (by omega))
      by_cases y : k < l.length
      · have nx := nx (l[k] : Int) (fun _ => rfl)
        refine V_iload_n eX10_takeWord_16 rfl rfl ?_
        refine V_bipush eX10_takeWord_17 (by decide) ?_
        refine V_icmp_ge (tgt := 67) eX10_takeWord_19 rfl (by omega) (fun c_19 => ?_) (fun c_19 => ?_)
        · exact absurd c_19 (by omega)
        · refine V_aload_n eX10_takeWord_22 rfl rfl ?_
          refine V_getf eX10_takeWord_23 H_this rfl ?_
          refine V_bipush eX10_takeWord_26 (by decide) ?_
          refine V_bipush eX10_takeWord_28 (by decide) ?_
          refine V_iload_n eX10_takeWord_30 rfl rfl ?_
          refine V_imul eX10_takeWord_31 ?_
          refine V_iadd eX10_takeWord_32 ?_
          refine V_iload_n eX10_takeWord_33 rfl rfl ?_
          refine V_iadd eX10_takeWord_34 ?_
          refine V_iload_n eX10_takeWord_35 rfl rfl ?_
          refine V_aload_n eX10_takeWord_36 rfl rfl ?_
          refine V_getf eX10_takeWord_37 H_this rfl ?_
          refine V_iload_n eX10_takeWord_40 rfl rfl ?_
          refine V_iald eX10_takeWord_41 H_this_newSizes (by omega) ?_
          rw [Int.toNat_natCast, w1]
          refine V_icmp_ge (tgt := 59) eX10_takeWord_42 rfl (by omega) (fun c_42 => ?_) (fun c_42 => ?_)
          · exact absurd c_42 (by omega)
          · refine V_aload_n eX10_takeWord_45 rfl rfl ?_
            refine V_getf eX10_takeWord_46 H_this rfl ?_
            refine V_bipush eX10_takeWord_49 (by decide) ?_
            refine V_iload_n eX10_takeWord_51 rfl rfl ?_
            refine V_imul eX10_takeWord_52 ?_
            refine V_iload_n eX10_takeWord_53 rfl rfl ?_
            refine V_iadd eX10_takeWord_54 ?_
            refine V_iald eX10_takeWord_55 H_this_newLetters (by omega) ?_
            rw [n2, w2 k y]
            refine V_goto (tgt := 60) eX10_takeWord_56 rfl ?_
            refine V_iast eX10_takeWord_60 H_this_st (by omega) ?_
            rw [n1]
            refine V_iinc eX10_takeWord_61 rfl rfl (eb_sS (eb_sS (eb_sS eb_s0))) ?_
            refine V_goto (tgt := 16) eX10_takeWord_64 rfl ?_
            exact nx
      · have nx := nx 0 (fun z => absurd z y)
        refine V_iload_n eX10_takeWord_16 rfl rfl ?_
        refine V_bipush eX10_takeWord_17 (by decide) ?_
        refine V_icmp_ge (tgt := 67) eX10_takeWord_19 rfl (by omega) (fun c_19 => ?_) (fun c_19 => ?_)
        · exact absurd c_19 (by omega)
        · refine V_aload_n eX10_takeWord_22 rfl rfl ?_
          refine V_getf eX10_takeWord_23 H_this rfl ?_
          refine V_bipush eX10_takeWord_26 (by decide) ?_
          refine V_bipush eX10_takeWord_28 (by decide) ?_
          refine V_iload_n eX10_takeWord_30 rfl rfl ?_
          refine V_imul eX10_takeWord_31 ?_
          refine V_iadd eX10_takeWord_32 ?_
          refine V_iload_n eX10_takeWord_33 rfl rfl ?_
          refine V_iadd eX10_takeWord_34 ?_
          refine V_iload_n eX10_takeWord_35 rfl rfl ?_
          refine V_aload_n eX10_takeWord_36 rfl rfl ?_
          refine V_getf eX10_takeWord_37 H_this rfl ?_
          refine V_iload_n eX10_takeWord_40 rfl rfl ?_
          refine V_iald eX10_takeWord_41 H_this_newSizes (by omega) ?_
          rw [Int.toNat_natCast, w1]
          refine V_icmp_ge (tgt := 59) eX10_takeWord_42 rfl (by omega) (fun c_42 => ?_) (fun c_42 => ?_)
          · refine V_iconst eX10_takeWord_59 ?_
            refine V_iast eX10_takeWord_60 H_this_st (by omega) ?_
            rw [n1]
            refine V_iinc eX10_takeWord_61 rfl rfl (eb_sS (eb_sS (eb_sS eb_s0))) ?_
            refine V_goto (tgt := 16) eX10_takeWord_64 rfl ?_
            exact nx
          · exact absurd c_42 (by omega)
  refine V_aload_n eX10_takeWord_0 rfl rfl ?_
  refine V_getf eX10_takeWord_1 H_this rfl ?_
  refine V_iconst eX10_takeWord_4 ?_
  refine V_iload_n eX10_takeWord_5 rfl rfl ?_
  refine V_iadd eX10_takeWord_6 ?_
  refine V_aload_n eX10_takeWord_7 rfl rfl ?_
  refine V_getf eX10_takeWord_8 H_this rfl ?_
  refine V_iload_n eX10_takeWord_11 rfl rfl ?_
  refine V_iald eX10_takeWord_12 H_this_newSizes (by omega) ?_
  rw [Int.toNat_natCast, w1]
  refine V_iast eX10_takeWord_13 H_this_st (by omega) ?_
  rw [n5]
  refine V_iconst eX10_takeWord_14 ?_
  refine V_istore_n eX10_takeWord_15 rfl (Nat.le_of_ble_eq_true rfl) rfl (eb_sS (eb_sS (eb_sS eb_s0))) ?_
  exact loop 12 0 _ _ (by omega) eb_up_s (fun j hj => eb_up_n hj rfl) (oth.set5 (fun _ _ _ => rfl)) (by unfold eb_set; rw [if_pos rfl]) (fun j hj hk => absurd hk (by omega))
theorem c_X10_moveWord {w i : Nat} {l : List Nat} (H_this : h 67 = mo c) (H_this_st : h 68 = eb_ia 525 sf) (hw : w < 40) (hi : i < 40) (hwi : w ≠ i) (hl : l.length ≤ 12) (hmw : mw sf i l) : eb_T mX10_moveWord [.ref 67, .int (eb_I (w : Int)), .int (eb_I (i : Int))] n h (eb_G none n (fun h' => (∃ f, h' 68 = eb_ia 525 f ∧ mw f w l ∧ oth sf f w) ∧ ∀ k, k ≠ 68 → h' k = h k)) := by
  refine eb_T.of (by decide +kernel) (Nat.le_of_ble_eq_true rfl) ?_
  show eb_V _ _ 0 [.ref 67, .int (eb_I (w : Int)), .int (eb_I (i : Int)), eb_no] [] (n, 0, 0) h _
  obtain ⟨w1, w2⟩ := hmw
  have n5 : ((5 : Int) + (w : Int)).toNat = 5 + w := by omega
  have n5i : ((5 : Int) + (i : Int)).toNat = 5 + i := by omega
  have loop : ∀ (d k : Nat) (h1 : eb_H) (f : Nat → Int), k + d = 12 → h1 68 = eb_ia 525 f → (∀ j, j ≠ 68 → h1 j = h j) → oth sf f w → f (5 + w) = (l.length : Int) → (∀ j (hj : j < l.length), j < k → f (45 + 12 * w + j) = (l[j] : Int)) → eb_V mX10_moveWord (fun _ _ _ => True) 18 [.ref 67, .int (eb_I (w : Int)), .int (eb_I (i : Int)), .int (eb_I (k : Int))] [] (n, 0, 0) h1 (eb_R mX10_moveWord (eb_G none n (fun h' => (∃ f, h' 68 = eb_ia 525 f ∧ mw f w l ∧ oth sf f w) ∧ ∀ k, k ≠ 68 → h' k = h k))) := by
    intro d
    induction d with
    | zero =>
      intro k h1 f hk A1 A2 A3 A4 A5
      refine V_iload_n eX10_moveWord_18 rfl rfl ?_
      refine V_bipush eX10_moveWord_19 (by decide) ?_
      refine V_icmp_ge (tgt := 58) eX10_moveWord_21 rfl (by omega) (fun c_21 => ?_) (fun c_21 => ?_)
      · exact V_vret eX10_moveWord_58 ⟨Nat.zero_le _, Nat.zero_le _⟩ rfl (⟨rfl, rfl, ⟨f, A1, ⟨A4, fun j hj => A5 j hj (by omega)⟩, A3⟩, A2⟩)
      · exact absurd (by omega) c_21
    | succ d ih =>
      intro k h1 f hk A1 A2 A3 A4 A5
      have H_this_st := A1
      have H_this : h1 67 = mo c := (A2 67 (by omega)).trans H_this
      have n1 : ((45 : Int) + 12 * (w : Int) + (k : Int)).toNat = 45 + 12 * w + k := by omega
      have n2 : ((45 : Int) + 12 * (i : Int) + (k : Int)).toNat = 45 + 12 * i + k := by omega
      have e2 : f (45 + 12 * i + k) = sf (45 + 12 * i + k) := A3 _ (by omega) (by omega)
      have nx : eb_V mX10_moveWord (fun _ _ _ => True) 18 [.ref 67, .int (eb_I (w : Int)), .int (eb_I (i : Int)), .int (eb_I ((k + 1 : Nat) : Int))] [] (n, 0, 0) (eb_up h1 68 (eb_ia 525 (eb_set f (45 + 12 * w + k) (sf (45 + 12 * i + k))))) (eb_R mX10_moveWord (eb_G none n (fun h' => (∃ f, h' 68 = eb_ia 525 f ∧ mw f w l ∧ oth sf f w) ∧ ∀ k, k ≠ 68 → h' k = h k))) := ih (k + 1) _ _ (by omega) eb_up_s (fun j hj => eb_up_n hj (A2 j hj)) (A3.setL (by omega)) (by unfold eb_set; rw [if_neg (by omega)]; exact A4) (fun j hj hjk => by
        unfold eb_set
        by_cases y : j = k
        · subst y
          rw [if_pos rfl]
          exact w2 j hj
        · rw [if_neg (by omega)]
          exact A5 j hj (by omega))
      refine V_iload_n eX10_moveWord_18 rfl rfl ?_
      refine V_bipush eX10_moveWord_19 (by decide) ?_
      refine V_icmp_ge (tgt := 58) eX10_moveWord_21 rfl (by omega) (fun c_21 => ?_) (fun c_21 => ?_)
      · exact absurd c_21 (by omega)
      · refine V_aload_n eX10_moveWord_24 rfl rfl ?_
        refine V_getf eX10_moveWord_25 H_this rfl ?_
        refine V_bipush eX10_moveWord_28 (by decide) ?_
        refine V_bipush eX10_moveWord_30 (by decide) ?_
        refine V_iload_n eX10_moveWord_32 rfl rfl ?_
        refine V_imul eX10_moveWord_33 ?_
        refine V_iadd eX10_moveWord_34 ?_
        refine V_iload_n eX10_moveWord_35 rfl rfl ?_
        refine V_iadd eX10_moveWord_36 ?_
        refine V_aload_n eX10_moveWord_37 rfl rfl ?_
        refine V_getf eX10_moveWord_38 H_this rfl ?_
        refine V_bipush eX10_moveWord_41 (by decide) ?_
        refine V_bipush eX10_moveWord_43 (by decide) ?_
        refine V_iload_n eX10_moveWord_45 rfl rfl ?_
        refine V_imul eX10_moveWord_46 ?_
        refine V_iadd eX10_moveWord_47 ?_
        refine V_iload_n eX10_moveWord_48 rfl rfl ?_
        refine V_iadd eX10_moveWord_49 ?_
        refine V_iald eX10_moveWord_50 H_this_st (by omega) ?_
        rw [n2, e2]
        refine V_iast eX10_moveWord_51 H_this_st (by omega) ?_
        rw [n1]
        refine V_iinc eX10_moveWord_52 rfl rfl (eb_sS (eb_sS (eb_sS eb_s0))) ?_
        refine V_goto (tgt := 18) eX10_moveWord_55 rfl ?_
        exact nx
  refine V_aload_n eX10_moveWord_0 rfl rfl ?_
  refine V_getf eX10_moveWord_1 H_this rfl ?_
  refine V_iconst eX10_moveWord_4 ?_
  refine V_iload_n eX10_moveWord_5 rfl rfl ?_
  refine V_iadd eX10_moveWord_6 ?_
  refine V_aload_n eX10_moveWord_7 rfl rfl ?_
  refine V_getf eX10_moveWord_8 H_this rfl ?_
  refine V_iconst eX10_moveWord_11 ?_
  refine V_iload_n eX10_moveWord_12 rfl rfl ?_
  refine V_iadd eX10_moveWord_13 ?_
  refine V_iald eX10_moveWord_14 H_this_st (by omega) ?_
  rw [n5i, w1]
  refine V_iast eX10_moveWord_15 H_this_st (by omega) ?_
  rw [n5]
  refine V_iconst eX10_moveWord_16 ?_
  refine V_istore_n eX10_moveWord_17 rfl (Nat.le_of_ble_eq_true rfl) rfl (eb_sS (eb_sS (eb_sS eb_s0))) ?_
  exact loop 12 0 _ _ (by omega) eb_up_s (fun j hj => eb_up_n hj rfl) (oth.set5 (fun _ _ _ => rfl)) (by unfold eb_set; rw [if_pos rfl]) (fun j hj hk => absurd hk (by omega))
theorem c_X10_clearWord {w : Nat} (H_this : h 67 = mo c) (H_this_st : h 68 = eb_ia 525 sf) (hw : w < 40) : eb_T mX10_clearWord [.ref 67, .int (eb_I (w : Int))] n h (eb_G none n (fun h' => (∃ f, h' 68 = eb_ia 525 f ∧ oth sf f w) ∧ ∀ k, k ≠ 68 → h' k = h k)) := by
  refine eb_T.of (by decide +kernel) (Nat.le_of_ble_eq_true rfl) ?_
  show eb_V _ _ 0 [.ref 67, .int (eb_I (w : Int)), eb_no] [] (n, 0, 0) h _
  have n5 : ((5 : Int) + (w : Int)).toNat = 5 + w := by omega
  have loop : ∀ (d k : Nat) (h1 : eb_H) (f : Nat → Int), k + d = 12 → h1 68 = eb_ia 525 f → (∀ j, j ≠ 68 → h1 j = h j) → oth sf f w → eb_V mX10_clearWord (fun _ _ _ => True) 11 [.ref 67, .int (eb_I (w : Int)), .int (eb_I (k : Int))] [] (n, 0, 0) h1 (eb_R mX10_clearWord (eb_G none n (fun h' => (∃ f, h' 68 = eb_ia 525 f ∧ oth sf f w) ∧ ∀ k, k ≠ 68 → h' k = h k))) := by
    intro d
    induction d with
    | zero =>
      intro k h1 f hk A1 A2 A3
      refine V_iload_n eX10_clearWord_11 rfl rfl ?_
      refine V_bipush eX10_clearWord_12 (by decide) ?_
      refine V_icmp_ge (tgt := 38) eX10_clearWord_14 rfl (by omega) (fun c_14 => ?_) (fun c_14 => ?_)
      · exact V_vret eX10_clearWord_38 ⟨Nat.zero_le _, Nat.zero_le _⟩ rfl (⟨rfl, rfl, ⟨f, A1, A3⟩, A2⟩)
      · exact absurd (by omega) c_14
    | succ d ih =>
      intro k h1 f hk A1 A2 A3
      have H_this_st := A1
      have H_this : h1 67 = mo c := (A2 67 (by omega)).trans H_this
      have n1 : ((45 : Int) + 12 * (w : Int) + (k : Int)).toNat = 45 + 12 * w + k := by omega
      refine V_iload_n eX10_clearWord_11 rfl rfl ?_
      refine V_bipush eX10_clearWord_12 (by decide) ?_
      refine V_icmp_ge (tgt := 38) eX10_clearWord_14 rfl (by omega) (fun c_14 => ?_) (fun c_14 => ?_)
      · exact absurd c_14 (by omega)
      · refine V_aload_n eX10_clearWord_17 rfl rfl ?_
        refine V_getf eX10_clearWord_18 H_this rfl ?_
        refine V_bipush eX10_clearWord_21 (by decide) ?_
        refine V_bipush eX10_clearWord_23 (by decide) ?_
        refine V_iload_n eX10_clearWord_25 rfl rfl ?_
        refine V_imul eX10_clearWord_26 ?_
        refine V_iadd eX10_clearWord_27 ?_
        refine V_iload_n eX10_clearWord_28 rfl rfl ?_
        refine V_iadd eX10_clearWord_29 ?_
        refine V_iconst eX10_clearWord_30 ?_
        refine V_iast eX10_clearWord_31 H_this_st (by omega) ?_
        rw [n1]
        refine V_iinc eX10_clearWord_32 rfl rfl (eb_sS (eb_sS eb_s0)) ?_
        refine V_goto (tgt := 11) eX10_clearWord_35 rfl ?_
        exact ih (k + 1) _ _ (by omega) eb_up_s (fun j hj => eb_up_n hj (A2 j hj)) (A3.setL (by omega))
  refine V_aload_n eX10_clearWord_0 rfl rfl ?_
  refine V_getf eX10_clearWord_1 H_this rfl ?_
  refine V_iconst eX10_clearWord_4 ?_
  refine V_iload_n eX10_clearWord_5 rfl rfl ?_
  refine V_iadd eX10_clearWord_6 ?_
  refine V_iconst eX10_clearWord_7 ?_
  refine V_iast eX10_clearWord_8 H_this_st (by omega) ?_
  rw [n5]
  refine V_iconst eX10_clearWord_9 ?_
  refine V_istore_n eX10_clearWord_10 rfl (Nat.le_of_ble_eq_true rfl) rfl (eb_sS (eb_sS eb_s0)) ?_
  exact loop 12 0 _ _ (by omega) eb_up_s (fun j hj => eb_up_n hj rfl) (oth.set5 (fun _ _ _ => rfl))
theorem c_X10_note {pf : Nat → Int} {past : List TX} (H_this : h 67 = mo c) (H_this_st : h 68 = eb_ia 525 sf) (hm : ms sf T) (HO : TX_ok T) (H_this_past : h 69 = eb_ia 8400 pf) (h2 : c 2 = (past.length : Int)) (hp : mp pf past) (hpo : past.length ≤ 16 ∧ ∀ T ∈ past, TX_ok T) : eb_T mX10_note [.ref 67] n h (eb_G none n (fun h' => (h' 67 = mo (eb_set c 2 (((T :: past).take 16).length : Int)) ∧ ∃ pf', h' 69 = eb_ia 8400 pf' ∧ mp pf' ((T :: past).take 16)) ∧ ∀ k, k ≠ 67 → k ≠ 69 → h' k = h k)) := by
  refine eb_T.of (by decide +kernel) (Nat.le_of_ble_eq_true rfl) ?_
  show eb_V _ _ 0 [.ref 67, eb_no] [] (n, 0, 0) h _
  generalize hG : (fun (h' : eb_H) => (h' 67 = mo (eb_set c 2 (((T :: past).take 16).length : Int)) ∧ ∃ pf', h' 69 = eb_ia 8400 pf' ∧ mp pf' ((T :: past).take 16)) ∧ ∀ k, k ≠ 67 → k ≠ 69 → h' k = h k) = G
  have copy : ∀ (u : Nat) (h0 : eb_H) (pf0 : Nat → Int), u < 16 → h0 67 = mo (eb_set c 2 (u : Int)) → h0 69 = eb_ia 8400 pf0 → (∀ k, k ≠ 67 → k ≠ 69 → h0 k = h k) → (∀ h' pf', h' 67 = mo (eb_set c 2 ((u : Int) + 1)) → h' 69 = eb_ia 8400 pf' → (∀ j, j < 525 → pf' (525 * u + j) = sf j) → (∀ j, j < 525 * u → pf' j = pf0 j) → (∀ k, k ≠ 67 → k ≠ 69 → h' k = h k) → G h') → ∀ x1 : Value, eb_V mX10_note (fun _ _ _ => True) 50 [.ref 67, x1] [] (n, 0, 0) h0 (eb_R mX10_note (eb_G none n G)) := by
    intro u h0 pf0 hu A1 A2 A3 hE x1
    have loop : ∀ (d k : Nat) (h1 : eb_H) (p1 : Nat → Int), k + d = 525 → h1 67 = mo (eb_set c 2 (u : Int)) → h1 69 = eb_ia 8400 p1 → (∀ j, j < k → p1 (525 * u + j) = sf j) → (∀ j, j < 525 * u → p1 j = pf0 j) → (∀ k, k ≠ 67 → k ≠ 69 → h1 k = h k) → eb_V mX10_note (fun _ _ _ => True) 52 [.ref 67, .int (eb_I (k : Int))] [] (n, 0, 0) h1 (eb_R mX10_note (eb_G none n G)) := by
      intro d
      induction d with
      | zero =>
        intro k h1 p1 hk B1 B2 B3 B4 B5
        have H_this := B1
        refine V_iload_n eX10_note_52 rfl rfl ?_
        refine V_sipush eX10_note_53 (by decide) ?_
        refine V_icmp_ge (tgt := 86) eX10_note_56 rfl (by omega) (fun c_56 => ?_) (fun c_56 => ?_)
        · refine V_aload_n eX10_note_86 rfl rfl ?_
          refine V_dup eX10_note_87 rfl ?_
          refine V_getf eX10_note_88 H_this rfl ?_
          show eb_V _ _ 91 _ [.int (eb_I (u : Int)), _] _ _ _
          refine V_iconst eX10_note_91 ?_
          refine V_iadd eX10_note_92 ?_
          refine V_putf eX10_note_93 H_this eb_fitI (eb_sS (eb_sS eb_s0)) (Nat.le_of_ble_eq_true rfl) ?_
          exact V_vret eX10_note_96 ⟨Nat.zero_le _, Nat.zero_le _⟩ rfl (⟨rfl, rfl, hE _ p1 eb_up_s (eb_up_n (by omega) B2) (fun j hj => B3 j (by omega)) B4 (fun k z1 z2 => eb_up_n z1 (B5 k z1 z2))⟩)
        · exact absurd (by omega) c_56
      | succ d ih =>
        intro k h1 p1 hk B1 B2 B3 B4 B5
        have H_this := B1
        have H_this_past := B2
        have H_this_st : h1 68 = eb_ia 525 sf := (B5 68 (by omega) (by omega)).trans H_this_st
        have n1 : ((525 : Int) * (u : Int) + (k : Int)).toNat = 525 * u + k := by omega
        refine V_iload_n eX10_note_52 rfl rfl ?_
        refine V_sipush eX10_note_53 (by decide) ?_
        refine V_icmp_ge (tgt := 86) eX10_note_56 rfl (by omega) (fun c_56 => ?_) (fun c_56 => ?_)
        · exact absurd c_56 (by omega)
        · refine V_aload_n eX10_note_59 rfl rfl ?_
          refine V_getf eX10_note_60 H_this rfl ?_
          refine V_sipush eX10_note_63 (by decide) ?_
          refine V_aload_n eX10_note_66 rfl rfl ?_
          refine V_getf eX10_note_67 H_this rfl ?_
          show eb_V _ _ 70 _ [.int (eb_I (u : Int)), _, _] _ _ _
          refine V_imul eX10_note_70 ?_
          refine V_iload_n eX10_note_71 rfl rfl ?_
          refine V_iadd eX10_note_72 ?_
          refine V_aload_n eX10_note_73 rfl rfl ?_
          refine V_getf eX10_note_74 H_this rfl ?_
          refine V_iload_n eX10_note_77 rfl rfl ?_
          refine V_iald eX10_note_78 H_this_st (by omega) ?_
          rw [Int.toNat_natCast]
          refine V_iast eX10_note_79 H_this_past (by omega) ?_
          rw [n1]
          refine V_iinc eX10_note_80 rfl rfl (eb_sS eb_s0) ?_
          refine V_goto (tgt := 52) eX10_note_83 rfl ?_
          exact ih (k + 1) _ _ (by omega) (eb_up_n (by omega) B1) eb_up_s (fun j hj => by
            unfold eb_set
            by_cases y : j = k
            · rw [if_pos (by omega), y]
            · rw [if_neg (by omega)]
              exact B3 j (by omega)) (fun j hj => by
            unfold eb_set
            rw [if_neg (by omega)]
            exact B4 j hj) (fun k z1 z2 => eb_up_n z2 (B5 k z1 z2))
    refine V_iconst eX10_note_50 ?_
    refine V_istore_n eX10_note_51 rfl (Nat.le_of_ble_eq_true rfl) rfl (eb_sS eb_s0) ?_
    exact loop 525 0 h0 pf0 (by omega) A1 A2 (fun j hj => absurd hj (by omega)) (fun _ _ => rfl) A3
  by_cases y : past.length = 16
  · have el : ((T :: past).take 16) = T :: past.take 15 := rfl
    have ell : ((T :: past).take 16).length = 16 := by rw [el, List.length_cons, List.length_take]; omega
    have shift : ∀ (d k : Nat) (h1 : eb_H) (p1 : Nat → Int), k + d = 7875 → h1 67 = mo c → h1 69 = eb_ia 8400 p1 → (∀ j, j < k → p1 j = pf (j + 525)) → (∀ j, k ≤ j → p1 j = pf j) → (∀ k, k ≠ 67 → k ≠ 69 → h1 k = h k) → eb_V mX10_note (fun _ _ _ => True) 11 [.ref 67, .int (eb_I (k : Int))] [] (n, 0, 0) h1 (eb_R mX10_note (eb_G none n G)) := by
      intro d
      induction d with
      | zero =>
        intro k h1 p1 hk B1 B2 B3 B4 B5
        have H_this := B1
        refine V_iload_n eX10_note_11 rfl rfl ?_
        refine V_sipush eX10_note_12 (by decide) ?_
        refine V_icmp_ge (tgt := 40) eX10_note_15 rfl (by omega) (fun c_15 => ?_) (fun c_15 => ?_)
        · refine V_aload_n eX10_note_40 rfl rfl ?_
          refine V_dup eX10_note_41 rfl ?_
          refine V_getf eX10_note_42 H_this rfl ?_
          rw [h2, y]
          refine V_iconst eX10_note_45 ?_
          refine V_isub eX10_note_46 ?_
          refine V_putf eX10_note_47 H_this eb_fitI (eb_sS (eb_sS eb_s0)) (Nat.le_of_ble_eq_true rfl) ?_
          refine copy 15 _ p1 (by omega) eb_up_s (eb_up_n (by omega) B2) (fun k z1 z2 => eb_up_n z1 (B5 k z1 z2)) (fun h' pf' C1 C2 C3 C4 C5 => ?_) _
          rw [← hG]
          refine ⟨⟨by rw [ell]; exact C1, pf', C2, ?_⟩, C5⟩
          intro i hi
          rw [ell] at hi ⊢
          rcases i with _ | i
          · exact hm.cg HO (fun k hk => C3 k hk)
          · have hi2 : i < past.length := by omega
            have e1 : ((T :: past).take 16)[i + 1]'(by rw [ell]; exact hi) = past[i] := by simp [el]
            rw [e1]
            have := hp i hi2
            refine this.cg (hpo.2 _ (List.getElem_mem hi2)) (fun k hk => ?_)
            show pf' _ = pf _
            rw [C4 _ (by omega), B3 _ (by omega)]
            congr 1
            omega
        · exact absurd (by omega) c_15
      | succ d ih =>
        intro k h1 p1 hk B1 B2 B3 B4 B5
        have H_this := B1
        have H_this_past := B2
        have n1 : ((k : Int) + 525).toNat = k + 525 := by omega
        have e1 : p1 (k + 525) = pf (k + 525) := B4 _ (by omega)
        refine V_iload_n eX10_note_11 rfl rfl ?_
        refine V_sipush eX10_note_12 (by decide) ?_
        refine V_icmp_ge (tgt := 40) eX10_note_15 rfl (by omega) (fun c_15 => ?_) (fun c_15 => ?_)
        · exact absurd c_15 (by omega)
        · refine V_aload_n eX10_note_18 rfl rfl ?_
          refine V_getf eX10_note_19 H_this rfl ?_
          refine V_iload_n eX10_note_22 rfl rfl ?_
          refine V_aload_n eX10_note_23 rfl rfl ?_
          refine V_getf eX10_note_24 H_this rfl ?_
          refine V_iload_n eX10_note_27 rfl rfl ?_
          refine V_sipush eX10_note_28 (by decide) ?_
          refine V_iadd eX10_note_31 ?_
          refine V_iald eX10_note_32 H_this_past (by omega) ?_
          rw [n1, e1]
          refine V_iast eX10_note_33 H_this_past (by omega) ?_
          rw [Int.toNat_natCast]
          refine V_iinc eX10_note_34 rfl rfl (eb_sS eb_s0) ?_
          refine V_goto (tgt := 11) eX10_note_37 rfl ?_
          exact ih (k + 1) _ _ (by omega) (eb_up_n (by omega) B1) eb_up_s (fun j hj => by
            unfold eb_set
            by_cases y : j = k
            · rw [if_pos y, y]
            · rw [if_neg y]
              exact B3 j (by omega)) (fun j hj => by
            unfold eb_set
            rw [if_neg (by omega)]
            exact B4 j (by omega)) (fun k z1 z2 => eb_up_n z2 (B5 k z1 z2))
    refine V_aload_n eX10_note_0 rfl rfl ?_
    refine V_getf eX10_note_1 H_this rfl ?_
    rw [h2, y]
    refine V_bipush eX10_note_4 (by decide) ?_
    refine V_icmp_ne (tgt := 50) eX10_note_6 rfl (by omega) (fun c_6 => ?_) (fun c_6 => ?_)
    · exact absurd rfl c_6
    · refine V_iconst eX10_note_9 ?_
      refine V_istore_n eX10_note_10 rfl (Nat.le_of_ble_eq_true rfl) rfl (eb_sS eb_s0) ?_
      exact shift 7875 0 h pf (by omega) H_this H_this_past (fun j hj => absurd hj (by omega)) (fun _ _ => rfl) (fun _ _ _ => rfl)
  · have el : ((T :: past).take 16) = T :: past := List.take_of_length_le (by rw [List.length_cons]; omega)
    have H_this' : h 67 = mo (eb_set c 2 (past.length : Int)) := by rw [← h2]; exact H_this
    refine V_aload_n eX10_note_0 rfl rfl ?_
    refine V_getf eX10_note_1 H_this rfl ?_
    rw [h2]
    refine V_bipush eX10_note_4 (by decide) ?_
    refine V_icmp_ne (tgt := 50) eX10_note_6 rfl (by omega) (fun c_6 => ?_) (fun c_6 => ?_)
    · refine copy past.length h pf (by omega) H_this' H_this_past (fun _ _ _ => rfl) (fun h' pf' C1 C2 C3 C4 C5 => ?_) _
      rw [← hG, el]
      refine ⟨⟨C1, pf', C2, ?_⟩, C5⟩
      intro i hi
      rw [List.length_cons] at hi ⊢
      rcases i with _ | i
      · exact hm.cg HO (fun k hk => C3 k hk)
      · have hi2 : i < past.length := by omega
        have := hp i hi2
        refine this.cg (hpo.2 _ (List.getElem_mem hi2)) (fun k hk => ?_)
        show pf' _ = pf _
        rw [C4 _ (by omega)]
        congr 1
        omega
    · exact absurd c_6 (by omega)
end M9
