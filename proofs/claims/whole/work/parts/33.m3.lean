def mB (h : eb_H) (B : List Nat) (N : Nat) : Prop := ∃ be : Nat → Int, h 78 = eb_ia 42 be ∧ (∀ k (hk : k < B.length), be k = (B[k] : Int)) ∧ be B.length = (N : Int)
theorem mB.kept {h h' : eb_H} {B : List Nat} {N : Nat} (H : mB h B N) (k : h' 78 = h 78) : mB h' B N := by
  obtain ⟨be, a, b⟩ := H
  exact ⟨be, k.trans a, b⟩
theorem br_pos {o : Nat → Int} {N : Nat} (ho : br_ok o N) (hp : 0 < N) : 0 < (br_F o N N).length := by
  rw [br_step ho hp (Nat.le_refl _)]
  simp
section M3
variable {n : Nat} {h : eb_H} {c : Nat → Int} {sf : Nat → Int} {T : TX}
theorem c_X10_lay {wd : Nat → Int} (H_this : h 67 = mo c) (H_this_st : h 68 = eb_ia 525 sf) (hm : ms sf T) (HO : TX_ok T) (H_wd : h 73 = eb_ia 40 wd) (HM : mlany h) : eb_T mX10_lay [.ref 67] n h (eb_G none n (fun h' => (ml h' (txq T) ∧ ∃ wd', h' 73 = eb_ia 40 wd' ∧ ∀ w, w < T.1.length → wd' w = tx_wf T.1 w) ∧ ∀ k, (k < 73 ∨ 77 < k) → h' k = h k)) := by
  refine eb_T.of (by decide +kernel) (Nat.le_of_ble_eq_true rfl) ?_
  show eb_V _ _ 0 [.ref 67] [] (n, 0, 0) h _
  have e1 : sf (1 : Int).toNat = T.2.1 := hm.2.1
  refine V_aload_n eX10_lay_0 rfl rfl ?_
  refine V_cvg eX10_lay_1 (c_X10_measureWords H_this H_this_st hm HO H_wd) H_this rfl rfl (Nat.le_of_ble_eq_true rfl) ⟨rfl, rfl⟩ ⟨Nat.zero_le _, Nat.zero_le _⟩ (fun h1 ⟨⟨wd1, HW1, hwd1⟩, hfr1⟩ => ?_)
  show eb_V _ _ 4 _ [] _ _ _
  have H_this : h1 67 = mo c := (hfr1 67 (by omega)).trans H_this
  have H_this_st : h1 68 = _ := (hfr1 68 (by omega)).trans H_this_st
  refine V_aload_n eX10_lay_4 rfl rfl ?_
  refine V_aload_n eX10_lay_5 rfl rfl ?_
  refine V_getf eX10_lay_6 H_this rfl ?_
  refine V_iconst eX10_lay_9 ?_
  refine V_iald eX10_lay_10 H_this_st (by omega) ?_
  rw [e1]
  refine V_cvg eX10_lay_11 (c_X10_layBy H_this H_this_st hm HO HW1 hwd1 (tx_lok HO) (HM.kept (fun k a b => hfr1 k (by omega)))) H_this rfl rfl (Nat.le_of_ble_eq_true rfl) ⟨rfl, rfl⟩ ⟨Nat.zero_le _, Nat.zero_le _⟩ (fun h2 ⟨HM2, hfr2⟩ => ?_)
  show eb_V _ _ 14 _ [] _ _ _
  exact V_vret eX10_lay_14 ⟨Nat.zero_le _, Nat.zero_le _⟩ rfl (⟨rfl, rfl, ⟨HM2, wd1, (hfr2 73 (by omega)).trans HW1, hwd1⟩, fun k hk => (hfr2 k (by omega)).trans (hfr1 k (by omega))⟩)
theorem c_X10_total {wd : Nat → Int} (H_this : h 67 = mo c) (H_this_st : h 68 = eb_ia 525 sf) (hm : ms sf T) (HO : TX_ok T) (H_wd : h 73 = eb_ia 40 wd) (HM : mlany h) : eb_T mX10_total [.ref 67] n h (eb_G (some (.int (eb_I (dp_t (lt_c (txq T)) T.1.length)))) n (fun h' => (mlany h' ∧ ∃ wd', h' 73 = eb_ia 40 wd') ∧ ∀ k, (k < 73 ∨ 77 < k) → h' k = h k)) := by
  refine eb_T.of (by decide +kernel) (Nat.le_of_ble_eq_true rfl) ?_
  show eb_V _ _ 0 [.ref 67] [] (n, 0, 0) h _
  have hN : T.1.length ≤ 40 := HO.1.1
  have e0 : sf (0 : Int).toNat = (T.1.length : Int) := hm.1
  refine V_aload_n eX10_total_0 rfl rfl ?_
  refine V_cvg eX10_total_1 (c_X10_lay H_this H_this_st hm HO H_wd HM) H_this rfl rfl (Nat.le_of_ble_eq_true rfl) ⟨rfl, rfl⟩ ⟨Nat.zero_le _, Nat.zero_le _⟩ (fun h1 ⟨⟨HM1, wd1, HW1, hwd1⟩, hfr1⟩ => ?_)
  show eb_V _ _ 4 _ [] _ _ _
  have H_this : h1 67 = mo c := (hfr1 67 (by omega)).trans H_this
  have H_this_st : h1 68 = _ := (hfr1 68 (by omega)).trans H_this_st
  obtain ⟨up, co, to, ow, U, C, H_this_totals, W, q1, q2, q3, q4⟩ := id HM1
  have et : to T.1.length = dp_t (lt_c (txq T)) T.1.length := q3 T.1.length (Nat.le_refl _)
  refine V_aload_n eX10_total_4 rfl rfl ?_
  refine V_getf eX10_total_5 H_this rfl ?_
  refine V_aload_n eX10_total_8 rfl rfl ?_
  refine V_getf eX10_total_9 H_this rfl ?_
  refine V_iconst eX10_total_12 ?_
  refine V_iald eX10_total_13 H_this_st (by omega) ?_
  rw [e0]
  refine V_iald eX10_total_14 H_this_totals (by omega) ?_
  rw [Int.toNat_natCast, et]
  exact V_iret eX10_total_15 ⟨Nat.zero_le _, Nat.zero_le _⟩ rfl (rfl) (⟨rfl, rfl, ⟨HM1.any, wd1, HW1⟩, hfr1⟩)
theorem c_X10_breakLines {o ow be : Nat → Int} (H_this : h 67 = mo c) (H_this_st : h 68 = eb_ia 525 sf) (h0 : sf 0 = (T.1.length : Int)) (hN : T.1.length ≤ 40) (H_ow : h 77 = eb_ia 41 ow) (ho : br_ok o T.1.length) (how : ∀ e, e ≤ T.1.length → ow e = o e) (H_be : h 78 = eb_ia 42 be) : eb_T mX10_breakLines [.ref 67] n h (eb_G none n (fun h' => (h' 67 = mo (eb_set c 16 ((br_F o T.1.length T.1.length).length : Int)) ∧ mB h' (br_F o T.1.length T.1.length) T.1.length) ∧ ∀ k, k ≠ 67 → k ≠ 78 → h' k = h k)) := by
  refine eb_T.of (by decide +kernel) (Nat.le_of_ble_eq_true rfl) ?_
  show eb_V _ _ 0 [.ref 67, eb_no, eb_no, eb_no] [] (n, 0, 0) h _
  have e0 : sf (0 : Int).toNat = (T.1.length : Int) := h0
  obtain ⟨hup, hso⟩ := br_up ho T.1.length (Nat.le_refl _)
  have hlen := br_len hup hso
  generalize hNN : T.1.length = N at *
  generalize hB : br_F o N N = B at hup hso hlen
  have l2 : ∀ (f e k : Nat) (h1 : eb_H) (be1 : Nat → Int), e ≤ f → e ≤ N → (br_F o e e).length = k → k ≤ B.length → B.take k = br_F o e e → h1 67 = mo (eb_set c 16 (B.length : Int)) → h1 77 = eb_ia 41 ow → h1 78 = eb_ia 42 be1 → (∀ x, k ≤ x → ∀ (hx : x < B.length), be1 x = (B[x] : Int)) → be1 B.length = (N : Int) → (∀ k, k ≠ 67 → k ≠ 78 → h1 k = h k) → eb_V mX10_breakLines (fun _ _ _ => True) 52 [.ref 67, .int (eb_I (N : Int)), .int (eb_I (k : Int)), .int (eb_I (e : Int))] [] (n, 0, 0) h1 (eb_R mX10_breakLines (eb_G none n (fun h' => (h' 67 = mo (eb_set c 16 (B.length : Int)) ∧ mB h' B N) ∧ ∀ k, k ≠ 67 → k ≠ 78 → h' k = h k))) := by
    intro f
    induction f with
    | zero =>
      intro e k h1 be1 hf he hk hkB htk H_this H_this_owners H_this_begins g1 g2 hfr
      have : e = 0 := by omega
      subst this
      have hk0 : k = 0 := by rw [← hk]; rfl
      subst hk0
      refine V_iload_n eX10_breakLines_52 rfl rfl ?_
      refine V_if_le (tgt := 81) eX10_breakLines_53 rfl (by omega) (fun c_53 => ?_) (fun c_53 => ?_)
      · exact V_vret eX10_breakLines_81 ⟨Nat.zero_le _, Nat.zero_le _⟩ rfl (⟨rfl, rfl, ⟨H_this, be1, H_this_begins, fun x hx => g1 x (Nat.zero_le _) hx, g2⟩, hfr⟩)
      · exact absurd (by omega) c_53
    | succ f ih =>
      intro e k h1 be1 hf he hk hkB htk H_this H_this_owners H_this_begins g1 g2 hfr
      rcases Nat.eq_zero_or_pos e with z | z
      · exact ih e k h1 be1 (by omega) he hk hkB htk H_this H_this_owners H_this_begins g1 g2 hfr
      · have hst := br_step ho z he
        have hoe := ho e z he
        have hwe := how e he
        obtain ⟨a, ha⟩ : ∃ a : Nat, o e = (a : Int) := ⟨(o e).toNat, by omega⟩
        rw [ha] at hst hwe hoe
        rw [Int.toNat_natCast] at hst
        rw [hst] at hk htk
        have hk1 : k = (br_F o a a).length + 1 := by rw [← hk]; simp
        have hkl : k - 1 < B.length := by omega
        have hlast : B[k - 1] = a := by
          have h9 : (B.take k)[k - 1]? = some a := by rw [htk, List.getElem?_append_right (by omega), show k - 1 - (br_F o a a).length = 0 by omega]; rfl
          rw [List.getElem?_take_of_lt (by omega), List.getElem?_eq_getElem hkl] at h9
          exact Option.some.inj h9
        have htk2 : B.take (k - 1) = br_F o a a := by
          have h9 := congrArg (List.take (k - 1)) htk
          rw [List.take_take, Nat.min_eq_left (by omega), List.take_append_of_le_length (by omega), show k - 1 = (br_F o a a).length by omega, List.take_length] at h9
          rw [← h9]
          congr 1
          omega
        have ew : ow ((e : Nat) : Int).toNat = (a : Int) := by rw [Int.toNat_natCast]; exact hwe
        refine V_iload_n eX10_breakLines_52 rfl rfl ?_
        refine V_if_le (tgt := 81) eX10_breakLines_53 rfl (by omega) (fun c_53 => ?_) (fun c_53 => ?_)
        · exact absurd c_53 (by omega)
        · refine V_iinc eX10_breakLines_56 rfl rfl (eb_sS (eb_sS eb_s0)) ?_
          refine V_aload_n eX10_breakLines_59 rfl rfl ?_
          refine V_getf eX10_breakLines_60 H_this rfl ?_
          refine V_iload_n eX10_breakLines_63 rfl rfl ?_
          refine V_aload_n eX10_breakLines_64 rfl rfl ?_
          refine V_getf eX10_breakLines_65 H_this rfl ?_
          refine V_iload_n eX10_breakLines_68 rfl rfl ?_
          refine V_iald eX10_breakLines_69 H_this_owners (by omega) ?_
          rw [ew]
          refine V_iast eX10_breakLines_70 H_this_begins (by omega) ?_
          refine V_aload_n eX10_breakLines_71 rfl rfl ?_
          refine V_getf eX10_breakLines_72 (eb_up_n (by omega) H_this) rfl ?_
          refine V_iload_n eX10_breakLines_75 rfl rfl ?_
          refine V_iald eX10_breakLines_76 (eb_up_n (by omega) H_this_owners) (by omega) ?_
          rw [ew]
          refine V_istore_n eX10_breakLines_77 rfl (Nat.le_of_ble_eq_true rfl) rfl (eb_sS (eb_sS (eb_sS eb_s0))) ?_
          refine V_goto (tgt := 52) eX10_breakLines_78 rfl ?_
          rw [show (k : Int) + -1 = ((k - 1 : Nat) : Int) by omega, Int.toNat_natCast]
          refine ih a (k - 1) _ (eb_set be1 (k - 1) (a : Int)) (by omega) (by omega) (by omega) (by omega) htk2 (eb_up_n (by omega) H_this) (eb_up_n (by omega) H_this_owners) eb_up_s (fun x x1 hx => ?_) ?_ (fun x x1 x2 => by rw [eb_up, if_neg x2]; exact hfr x x1 x2)
          · unfold eb_set
            by_cases y : x = k - 1
            · subst y
              rw [if_pos rfl, hlast]
            · rw [if_neg y]
              exact g1 x (by omega) hx
          · unfold eb_set
            rw [if_neg (by omega)]
            exact g2
  have l1 : ∀ (f e : Nat) (h1 : eb_H) (lm : Nat), e ≤ f → e ≤ N → lm + (br_F o e e).length = B.length → h1 67 = mo (eb_set c 16 (lm : Int)) → (∀ k, k ≠ 67 → h1 k = h k) → eb_V mX10_breakLines (fun _ _ _ => True) 14 [.ref 67, .int (eb_I (N : Int)), .int (eb_I (e : Int)), eb_no] [] (n, 0, 0) h1 (eb_R mX10_breakLines (eb_G none n (fun h' => (h' 67 = mo (eb_set c 16 (B.length : Int)) ∧ mB h' B N) ∧ ∀ k, k ≠ 67 → k ≠ 78 → h' k = h k))) := by
    intro f
    induction f with
    | zero =>
      intro e h1 lm hf he hl H_this hfr
      have : e = 0 := by omega
      subst this
      have hlm : lm = B.length := by rw [← hl]; rfl
      subst hlm
      have H_this_begins : h1 78 = _ := (hfr 78 (by omega)).trans H_be
      refine V_iload_n eX10_breakLines_14 rfl rfl ?_
      refine V_if_le (tgt := 38) eX10_breakLines_15 rfl (by omega) (fun c_15 => ?_) (fun c_15 => ?_)
      · refine V_aload_n eX10_breakLines_38 rfl rfl ?_
        refine V_getf eX10_breakLines_39 H_this rfl ?_
        show eb_V _ _ 42 _ [.int (eb_I (B.length : Int))] _ _ _
        refine V_istore_n eX10_breakLines_42 rfl (Nat.le_of_ble_eq_true rfl) rfl (eb_sS (eb_sS eb_s0)) ?_
        refine V_aload_n eX10_breakLines_43 rfl rfl ?_
        refine V_getf eX10_breakLines_44 H_this rfl ?_
        refine V_iload_n eX10_breakLines_47 rfl rfl ?_
        refine V_iload_n eX10_breakLines_48 rfl rfl ?_
        refine V_iast eX10_breakLines_49 H_this_begins (by omega) ?_
        refine V_iload_n eX10_breakLines_50 rfl rfl ?_
        refine V_istore_n eX10_breakLines_51 rfl (Nat.le_of_ble_eq_true rfl) rfl (eb_sS (eb_sS (eb_sS eb_s0))) ?_
        show eb_V mX10_breakLines (fun _ _ _ => True) 52 [.ref 67, .int (eb_I (N : Int)), .int (eb_I (B.length : Int)), .int (eb_I (N : Int))] [] (n, 0, 0) (eb_up h1 78 (eb_ia 42 (eb_set be ((B.length : Nat) : Int).toNat (N : Int)))) _
        rw [Int.toNat_natCast]
        refine l2 N N B.length _ (eb_set be B.length (N : Int)) (Nat.le_refl _) (Nat.le_refl _) (by rw [hB]) (Nat.le_refl _) (by rw [hB, List.take_length]) (eb_up_n (by omega) H_this) (eb_up_n (by omega) ((hfr 77 (by omega)).trans H_ow)) eb_up_s (fun x x1 hx => absurd hx (by omega)) (if_pos rfl) (fun x x1 x2 => by rw [eb_up, if_neg x2]; exact hfr x x1)
      · exact absurd (by omega) c_15
    | succ f ih =>
      intro e h1 lm hf he hl H_this hfr
      rcases Nat.eq_zero_or_pos e with z | z
      · exact ih e h1 lm (by omega) he hl H_this hfr
      · have hst := br_step ho z he
        have hoe := ho e z he
        have hwe := how e he
        obtain ⟨a, ha⟩ : ∃ a : Nat, o e = (a : Int) := ⟨(o e).toNat, by omega⟩
        rw [ha] at hst hwe hoe
        rw [Int.toNat_natCast] at hst
        rw [hst] at hl
        simp only [List.length_append, List.length_singleton] at hl
        have ew : ow ((e : Nat) : Int).toNat = (a : Int) := by rw [Int.toNat_natCast]; exact hwe
        have H_this_owners : h1 77 = _ := (hfr 77 (by omega)).trans H_ow
        have nxt := ih a (eb_up h1 67 (mo (eb_set c 16 ((lm + 1 : Nat) : Int)))) (lm + 1) (by omega) (by omega) (by omega) eb_up_s (fun k hk => by rw [eb_up, if_neg hk]; exact hfr k hk)
        refine V_iload_n eX10_breakLines_14 rfl rfl ?_
        refine V_if_le (tgt := 38) eX10_breakLines_15 rfl (by omega) (fun c_15 => ?_) (fun c_15 => ?_)
        · exact absurd c_15 (by omega)
        · refine V_aload_n eX10_breakLines_18 rfl rfl ?_
          refine V_dup eX10_breakLines_19 rfl ?_
          refine V_getf eX10_breakLines_20 H_this rfl ?_
          refine V_iconst eX10_breakLines_23 ?_
          refine V_iadd eX10_breakLines_24 ?_
          show eb_V _ _ 25 _ [.int (eb_I ((lm + 1 : Nat) : Int)), .ref 67] _ _ _
          refine V_putf eX10_breakLines_25 H_this eb_fitI (eb_sS (eb_sS (eb_sS (eb_sS (eb_sS (eb_sS (eb_sS (eb_sS (eb_sS (eb_sS (eb_sS (eb_sS (eb_sS (eb_sS (eb_sS (eb_sS eb_s0)))))))))))))))) (Nat.le_of_ble_eq_true rfl) ?_
          refine V_aload_n eX10_breakLines_28 rfl rfl ?_
          refine V_getf eX10_breakLines_29 eb_up_s rfl ?_
          refine V_iload_n eX10_breakLines_32 rfl rfl ?_
          refine V_iald eX10_breakLines_33 (eb_up_n (by omega) H_this_owners) (by omega) ?_
          rw [ew]
          refine V_istore_n eX10_breakLines_34 rfl (Nat.le_of_ble_eq_true rfl) rfl (eb_sS (eb_sS eb_s0)) ?_
          refine V_goto (tgt := 14) eX10_breakLines_35 rfl ?_
          exact nxt
  refine V_aload_n eX10_breakLines_0 rfl rfl ?_
  refine V_getf eX10_breakLines_1 H_this rfl ?_
  refine V_iconst eX10_breakLines_4 ?_
  refine V_iald eX10_breakLines_5 H_this_st (by omega) ?_
  rw [e0]
  refine V_istore_n eX10_breakLines_6 rfl (Nat.le_of_ble_eq_true rfl) rfl (eb_sS eb_s0) ?_
  refine V_aload_n eX10_breakLines_7 rfl rfl ?_
  refine V_iconst eX10_breakLines_8 ?_
  refine V_putf eX10_breakLines_9 H_this eb_fitI (eb_sS (eb_sS (eb_sS (eb_sS (eb_sS (eb_sS (eb_sS (eb_sS (eb_sS (eb_sS (eb_sS (eb_sS (eb_sS (eb_sS (eb_sS (eb_sS eb_s0)))))))))))))))) (Nat.le_of_ble_eq_true rfl) ?_
  refine V_iload_n eX10_breakLines_12 rfl rfl ?_
  refine V_istore_n eX10_breakLines_13 rfl (Nat.le_of_ble_eq_true rfl) rfl (eb_sS (eb_sS eb_s0)) ?_
  exact l1 N N _ 0 (Nat.le_refl _) (Nat.le_refl _) (by rw [hB]; omega) eb_up_s (fun k hk => by rw [eb_up, if_neg hk])
theorem c_X10_beginSet {B : List Nat} {N : Nat} (H_this : h 67 = mo c) (hc : c 16 = (B.length : Int)) (HB : mB h B N) (hB : ∀ x ∈ B, x < 41) (hl : B.length ≤ 40) : eb_T mX10_beginSet [.ref 67] n h (eb_X (some (.long (eb_J (br_mk B : Int)))) n h) := by
  refine eb_T.of (by decide +kernel) (Nat.le_of_ble_eq_true rfl) ?_
  show eb_V _ _ 0 [.ref 67, eb_no, eb_no, eb_no] [] (n, 0, 0) h _
  obtain ⟨be, H_this_begins, hbe, -⟩ := HB
  have mt : ∀ i, br_mk (B.take i) < 2 ^ 41 := fun i => br_mk_lt (fun x hx => hB x (List.mem_of_mem_take hx))
  have loop : ∀ (d i : Nat), i + d = B.length → eb_V mX10_beginSet (fun _ _ _ => True) 4 [.ref 67, .long (eb_J (br_mk (B.take i) : Int)), eb_no, .int (eb_I (i : Int))] [] (n, 0, 0) h (eb_R mX10_beginSet (eb_X (some (.long (eb_J (br_mk B : Int)))) n h)) := by
    intro d
    induction d with
    | zero =>
      intro i hi
      have : i = B.length := by omega
      subst this
      rw [List.take_length]
      refine V_iload_n eX10_beginSet_4 rfl rfl ?_
      refine V_aload_n eX10_beginSet_5 rfl rfl ?_
      refine V_getf eX10_beginSet_6 H_this rfl ?_
      rw [hc]
      refine V_icmp_ge (tgt := 29) eX10_beginSet_9 rfl (by omega) (fun c_9 => ?_) (fun c_9 => ?_)
      · refine V_lload_n eX10_beginSet_29 rfl rfl ?_
        exact V_lret eX10_beginSet_30 ⟨Nat.zero_le _, Nat.zero_le _⟩ rfl (⟨rfl, rfl, rfl⟩)
      · exact absurd (Int.le_refl _) c_9
    | succ d ih =>
      intro i hi
      have hil : i < B.length := by omega
      have e1 : be ((i : Nat) : Int).toNat = (B[i] : Int) := by rw [Int.toNat_natCast]; exact hbe i hil
      have hbi := hB B[i] (List.getElem_mem hil)
      have hp : (2 : Nat) ^ B[i] < 2 ^ 41 := Nat.pow_lt_pow_right (by decide) hbi
      have m1 := mt i
      have em : br_mk (B.take (i + 1)) = br_mk (B.take i) ||| 1 * 2 ^ B[i] := by rw [List.take_succ_eq_append_getElem hil, br_mk_app, Nat.one_mul]
      have nxt := ih (i + 1) (by omega)
      rw [em] at nxt
      refine V_iload_n eX10_beginSet_4 rfl rfl ?_
      refine V_aload_n eX10_beginSet_5 rfl rfl ?_
      refine V_getf eX10_beginSet_6 H_this rfl ?_
      rw [hc]
      refine V_icmp_ge (tgt := 29) eX10_beginSet_9 rfl (by omega) (fun c_9 => ?_) (fun c_9 => ?_)
      · exact absurd c_9 (by omega)
      · refine V_lload_n eX10_beginSet_12 rfl rfl ?_
        refine V_lconst (b := 1) eX10_beginSet_13 (by decide) ?_
        refine V_aload_n eX10_beginSet_14 rfl rfl ?_
        refine V_getf eX10_beginSet_15 H_this rfl ?_
        refine V_iload_n eX10_beginSet_18 rfl rfl ?_
        refine V_iald eX10_beginSet_19 H_this_begins (by omega) ?_
        rw [e1]
        refine V_lshl eX10_beginSet_20 (eb_shl (a := 1) (by omega)) ?_
        refine V_lor eX10_beginSet_21 (eb_or (by omega) (by omega)) ?_
        refine V_lstore_n eX10_beginSet_22 rfl (Nat.le_of_ble_eq_true rfl) rfl (eb_sS eb_s0) (eb_sS (eb_sS eb_s0)) ?_
        refine V_iinc eX10_beginSet_23 rfl rfl (eb_sS (eb_sS (eb_sS eb_s0))) ?_
        refine V_goto (tgt := 4) eX10_beginSet_26 rfl ?_
        exact nxt
  refine V_lconst (b := 0) eX10_beginSet_0 (by decide) ?_
  refine V_lstore_n eX10_beginSet_1 rfl (Nat.le_of_ble_eq_true rfl) rfl (eb_sS eb_s0) (eb_sS (eb_sS eb_s0)) ?_
  refine V_iconst eX10_beginSet_2 ?_
  refine V_istore_n eX10_beginSet_3 rfl (Nat.le_of_ble_eq_true rfl) rfl (eb_sS (eb_sS (eb_sS eb_s0))) ?_
  exact loop B.length 0 (by omega)
def mlines (h : eb_H) (T : TX) (c : Nat → Int) : Prop := (h 67 = mo (eb_set c 16 ((lt_B (txq T)).length : Int)) ∧ mB h (lt_B (txq T)) T.1.length) ∧ ml h (txq T) ∧ ∃ wd, h 73 = eb_ia 40 wd ∧ ∀ w, w < T.1.length → wd w = tx_wf T.1 w
theorem c_X10_layLines {wd be : Nat → Int} (H_this : h 67 = mo c) (H_this_st : h 68 = eb_ia 525 sf) (hm : ms sf T) (HO : TX_ok T) (H_wd : h 73 = eb_ia 40 wd) (HM : mlany h) (H_be : h 78 = eb_ia 42 be) : eb_T mX10_layLines [.ref 67] n h (eb_G none n (fun h' => mlines h' T c ∧ ∀ k, (k < 73 ∨ 78 < k) → k ≠ 67 → h' k = h k)) := by
  refine eb_T.of (by decide +kernel) (Nat.le_of_ble_eq_true rfl) ?_
  show eb_V _ _ 0 [.ref 67] [] (n, 0, 0) h _
  have hN : T.1.length ≤ 40 := HO.1.1
  refine V_aload_n eX10_layLines_0 rfl rfl ?_
  refine V_cvg eX10_layLines_1 (c_X10_lay H_this H_this_st hm HO H_wd HM) H_this rfl rfl (Nat.le_of_ble_eq_true rfl) ⟨rfl, rfl⟩ ⟨Nat.zero_le _, Nat.zero_le _⟩ (fun h1 ⟨⟨HM1, wd1, HW1, hwd1⟩, hfr1⟩ => ?_)
  show eb_V _ _ 4 _ [] _ _ _
  have H_this : h1 67 = mo c := (hfr1 67 (by omega)).trans H_this
  have H_this_st : h1 68 = _ := (hfr1 68 (by omega)).trans H_this_st
  obtain ⟨up, co, to, ow, U, C, O, W, q1, q2, q3, q4⟩ := id HM1
  refine V_aload_n eX10_layLines_4 rfl rfl ?_
  refine V_cvg eX10_layLines_5 (c_X10_breakLines H_this H_this_st hm.1 hN W (lt_brok (tx_lok HO)) q4 ((hfr1 78 (by omega)).trans H_be)) H_this rfl rfl (Nat.le_of_ble_eq_true rfl) ⟨rfl, rfl⟩ ⟨Nat.zero_le _, Nat.zero_le _⟩ (fun h2 ⟨⟨A1, A2⟩, hfr2⟩ => ?_)
  show eb_V _ _ 8 _ [] _ _ _
  exact V_vret eX10_layLines_8 ⟨Nat.zero_le _, Nat.zero_le _⟩ rfl (⟨rfl, rfl, ⟨⟨A1, A2⟩, HM1.kept (fun k a b => hfr2 k (by omega) (by omega)), wd1, (hfr2 73 (by omega) (by omega)).trans HW1, hwd1⟩, fun k k1 k2 => (hfr2 k k2 (by omega)).trans (hfr1 k (by omega))⟩)
theorem c_X10_lineOf {wd be : Nat → Int} {w : Nat} (H_this : h 67 = mo c) (H_this_st : h 68 = eb_ia 525 sf) (hm : ms sf T) (HO : TX_ok T) (H_wd : h 73 = eb_ia 40 wd) (HM : mlany h) (H_be : h 78 = eb_ia 42 be) (hw : w < T.1.length) : eb_T mX10_lineOf [.ref 67, .int (eb_I (w : Int))] n h (eb_G (some (.int (eb_I (br_ln (lt_B (txq T)) w (lt_B (txq T)).length 0 : Nat)))) n (fun h' => mlines h' T c ∧ ∀ k, (k < 73 ∨ 78 < k) → k ≠ 67 → h' k = h k)) := by
  refine eb_T.of (by decide +kernel) (Nat.le_of_ble_eq_true rfl) ?_
  show eb_V _ _ 0 [.ref 67, .int (eb_I (w : Int)), eb_no] [] (n, 0, 0) h _
  have hN : T.1.length ≤ 40 := HO.1.1
  obtain ⟨hB1, hB2⟩ := lt_B_up (tx_lok HO)
  have hBl : (lt_B (txq T)).length ≤ T.1.length := br_len hB1 hB2
  have hB0 : 0 < (lt_B (txq T)).length := br_pos (lt_brok (tx_lok HO)) (show 0 < T.1.length by omega)
  have TL := c_X10_layLines (n := n) H_this H_this_st hm HO H_wd HM H_be
  have hB1' : ∀ x ∈ lt_B (txq T), x < T.1.length := hB1
  generalize hG : (fun h' => mlines h' T c ∧ ∀ k, (k < 73 ∨ 78 < k) → k ≠ 67 → h' k = h k) = G at TL ⊢
  have loop : ∀ (h1 : eb_H) (be1 : Nat → Int), G h1 → h1 67 = mo (eb_set c 16 ((lt_B (txq T)).length : Int)) → h1 78 = eb_ia 42 be1 → (∀ k (hk : k < (lt_B (txq T)).length), be1 k = ((lt_B (txq T))[k] : Int)) → be1 (lt_B (txq T)).length = (T.1.length : Int) → ∀ (f k : Nat), (lt_B (txq T)).length ≤ k + 1 + f → k < (lt_B (txq T)).length → eb_V mX10_lineOf (fun _ _ _ => True) 6 [.ref 67, .int (eb_I (w : Int)), .int (eb_I (k : Int))] [] (n, 0, 0) h1 (eb_R mX10_lineOf (eb_G (some (.int (eb_I (br_ln (lt_B (txq T)) w f k : Nat)))) n G)) := by
    generalize lt_B (txq T) = B at hBl hB0 hB1'
    intro h1 be1 hGh H_this H_this_begins g1 g2 f
    induction f with
    | zero =>
      intro k hk hk2
      have e1 : be1 ((k : Int) + 1).toNat = (T.1.length : Int) := by rw [show ((k : Int) + 1).toNat = B.length by omega]; exact g2
      refine V_aload_n eX10_lineOf_6 rfl rfl ?_
      refine V_getf eX10_lineOf_7 H_this rfl ?_
      refine V_iload_n eX10_lineOf_10 rfl rfl ?_
      refine V_iconst eX10_lineOf_11 ?_
      refine V_iadd eX10_lineOf_12 ?_
      refine V_iald eX10_lineOf_13 H_this_begins (by omega) ?_
      rw [e1]
      refine V_iload_n eX10_lineOf_14 rfl rfl ?_
      refine V_icmp_gt (tgt := 24) eX10_lineOf_15 rfl (by omega) (fun c_15 => ?_) (fun c_15 => ?_)
      · refine V_iload_n eX10_lineOf_24 rfl rfl ?_
        exact V_iret eX10_lineOf_25 ⟨Nat.zero_le _, Nat.zero_le _⟩ rfl (rfl) (⟨rfl, rfl, hGh⟩)
      · exact absurd (by omega) c_15
    | succ f ih =>
      intro k hk hk2
      by_cases cc : k + 1 < B.length ∧ B.getD (k + 1) 0 ≤ w
      · have e1 : br_ln B w (f + 1) k = br_ln B w f (k + 1) := by simp only [br_ln]; rw [if_pos cc]
        have e2 : be1 ((k : Int) + 1).toNat = (B.getD (k + 1) 0 : Int) := by
          rw [show ((k : Int) + 1).toNat = k + 1 by omega, g1 (k + 1) cc.1]
          simp [cc.1]
        rw [e1]
        refine V_aload_n eX10_lineOf_6 rfl rfl ?_
        refine V_getf eX10_lineOf_7 H_this rfl ?_
        refine V_iload_n eX10_lineOf_10 rfl rfl ?_
        refine V_iconst eX10_lineOf_11 ?_
        refine V_iadd eX10_lineOf_12 ?_
        refine V_iald eX10_lineOf_13 H_this_begins (by omega) ?_
        rw [e2]
        refine V_iload_n eX10_lineOf_14 rfl rfl ?_
        refine V_icmp_gt (tgt := 24) eX10_lineOf_15 rfl (by omega) (fun c_15 => ?_) (fun c_15 => ?_)
        · exact absurd c_15 (by omega)
        · refine V_iinc eX10_lineOf_18 rfl rfl (eb_sS (eb_sS eb_s0)) ?_
          refine V_goto (tgt := 6) eX10_lineOf_21 rfl ?_
          exact ih (k + 1) (by omega) (by omega)
      · have e1 : br_ln B w (f + 1) k = k := by simp only [br_ln]; rw [if_neg cc]
        rw [e1]
        by_cases c1 : k + 1 < B.length
        · have e2 : be1 ((k : Int) + 1).toNat = (B.getD (k + 1) 0 : Int) := by
            rw [show ((k : Int) + 1).toNat = k + 1 by omega, g1 (k + 1) c1]
            simp [c1]
          have e3 : B.getD (k + 1) 0 < T.1.length := by
            have := hB1' B[k + 1] (List.getElem_mem c1)
            simp [c1]
            exact this
          refine V_aload_n eX10_lineOf_6 rfl rfl ?_
          refine V_getf eX10_lineOf_7 H_this rfl ?_
          refine V_iload_n eX10_lineOf_10 rfl rfl ?_
          refine V_iconst eX10_lineOf_11 ?_
          refine V_iadd eX10_lineOf_12 ?_
          refine V_iald eX10_lineOf_13 H_this_begins (by omega) ?_
          rw [e2]
          refine V_iload_n eX10_lineOf_14 rfl rfl ?_
          refine V_icmp_gt (tgt := 24) eX10_lineOf_15 rfl (by omega) (fun c_15 => ?_) (fun c_15 => ?_)
          · refine V_iload_n eX10_lineOf_24 rfl rfl ?_
            exact V_iret eX10_lineOf_25 ⟨Nat.zero_le _, Nat.zero_le _⟩ rfl (rfl) (⟨rfl, rfl, hGh⟩)
          · exact absurd ⟨c1, by omega⟩ cc
        · have e2 : be1 ((k : Int) + 1).toNat = (T.1.length : Int) := by rw [show ((k : Int) + 1).toNat = B.length by omega]; exact g2
          refine V_aload_n eX10_lineOf_6 rfl rfl ?_
          refine V_getf eX10_lineOf_7 H_this rfl ?_
          refine V_iload_n eX10_lineOf_10 rfl rfl ?_
          refine V_iconst eX10_lineOf_11 ?_
          refine V_iadd eX10_lineOf_12 ?_
          refine V_iald eX10_lineOf_13 H_this_begins (by omega) ?_
          rw [e2]
          refine V_iload_n eX10_lineOf_14 rfl rfl ?_
          refine V_icmp_gt (tgt := 24) eX10_lineOf_15 rfl (by omega) (fun c_15 => ?_) (fun c_15 => ?_)
          · refine V_iload_n eX10_lineOf_24 rfl rfl ?_
            exact V_iret eX10_lineOf_25 ⟨Nat.zero_le _, Nat.zero_le _⟩ rfl (rfl) (⟨rfl, rfl, hGh⟩)
          · exact absurd (by omega) c_15
  refine V_aload_n eX10_lineOf_0 rfl rfl ?_
  refine V_cvg eX10_lineOf_1 (TL) H_this rfl rfl (Nat.le_of_ble_eq_true rfl) ⟨rfl, rfl⟩ ⟨Nat.zero_le _, Nat.zero_le _⟩ (fun h1 hG1 => ?_)
  show eb_V _ _ 4 _ [] _ _ _
  have hG2 := hG1
  rw [← hG] at hG2
  obtain ⟨⟨⟨A1, be1, A2, A3, A4⟩, -⟩, -⟩ := hG2
  refine V_iconst eX10_lineOf_4 ?_
  refine V_istore_n eX10_lineOf_5 rfl (Nat.le_of_ble_eq_true rfl) rfl (eb_sS (eb_sS eb_s0)) ?_
  exact loop h1 be1 hG1 A1 A2 A3 A4 _ 0 (by omega) hB0
theorem c_X10_growsOf {wd be : Nat → Int} {w : Nat} {v : Int} (H_this : h 67 = mo c) (H_this_st : h 68 = eb_ia 525 sf) (hm : ms sf T) (HO : TX_ok T) (H_wd : h 73 = eb_ia 40 wd) (HM : mlany h) (H_be : h 78 = eb_ia 42 be) (hw : w < T.1.length) (hv : lc (fun m => (1 ≤ m ∧ m ≤ 50) ∧ br_mk (gw_B T w m) ≠ br_mk (gw_B T w 0)) v) : eb_T mX10_growsOf [.ref 67, .int (eb_I (w : Int))] n h (eb_G (some (.int (eb_I v))) n (fun h' => ((∃ lm, h' 67 = mo (eb_set c 16 lm)) ∧ mlany h' ∧ (∃ wd, h' 73 = eb_ia 40 wd) ∧ ∃ be, h' 78 = eb_ia 42 be) ∧ ∀ k, (k < 73 ∨ 78 < k) → k ≠ 67 → h' k = h k)) := by
  refine eb_T.of (by decide +kernel) (Nat.le_of_ble_eq_true rfl) ?_
  show eb_V _ _ 0 [.ref 67, .int (eb_I (w : Int)), eb_no, eb_no, eb_no, eb_no] [] (n, 0, 0) h _
  have hN : T.1.length ≤ 40 := HO.1.1
  have e1 : sf (1 : Int).toNat = T.2.1 := hm.2.1
  have bu : ∀ m, m ≤ 50 → (∀ x ∈ gw_B T w m, x < 41) ∧ (gw_B T w m).length ≤ 40 := fun m hm => by
    obtain ⟨q1, q2⟩ := lt_B_up (gw_ok HO (w := w) hm)
    have q3 := br_len q1 q2
    exact ⟨fun x hx => by have := q1 x hx; simp only at this; omega, Nat.le_trans q3 hN⟩
  have bl : ∀ m, m ≤ 50 → br_mk (gw_B T w m) < 2 ^ 41 := fun m hm => br_mk_lt (bu m hm).1
  have h00 := gw_0 T w
  have vr : -1 ≤ v ∧ v ≤ 50 := by
    rcases hv with ⟨q, -⟩ | ⟨m, q1, q2, -⟩ <;> omega
  have fin : ∀ (h1 : eb_H) (x5 : Value) (c1 wd1 be1 : Nat → Int), (∃ lm, h1 67 = mo (eb_set c 16 lm)) → mlany h1 → h1 73 = eb_ia 40 wd1 → h1 78 = eb_ia 42 be1 → (∀ k, (k < 73 ∨ 78 < k) → k ≠ 67 → h1 k = h k) → eb_V mX10_growsOf (fun _ _ _ => True) 74 [.ref 67, .int (eb_I (w : Int)), .long (eb_J (br_mk (gw_B T w 0) : Int)), eb_no, .int (eb_I v), x5] [] (n, 0, 0) h1 (eb_R mX10_growsOf (eb_G (some (.int (eb_I v))) n (fun h' => ((∃ lm, h' 67 = mo (eb_set c 16 lm)) ∧ mlany h' ∧ (∃ wd, h' 73 = eb_ia 40 wd) ∧ ∃ be, h' 78 = eb_ia 42 be) ∧ ∀ k, (k < 73 ∨ 78 < k) → k ≠ 67 → h' k = h k))) := by
    intro h1 x5 c1 wd1 be1 a1 a2 a3 a4 a5
    refine V_iload eX10_growsOf_74 rfl ?_
    exact V_iret eX10_growsOf_76 ⟨Nat.zero_le _, Nat.zero_le _⟩ rfl (rfl) (⟨rfl, rfl, ⟨a1, a2, ⟨wd1, a3⟩, be1, a4⟩, a5⟩)
  have loop : ∀ (d m : Nat) (h1 : eb_H) (lm : Int) (wd1 be1 : Nat → Int), 1 ≤ m → m + d = 51 → h1 67 = mo (eb_set c 16 lm) → mlany h1 → h1 73 = eb_ia 40 wd1 → (∀ k, k < T.1.length → wd1 k = gw_wf T w (m - 1) k) → h1 78 = eb_ia 42 be1 → (∀ k, (k < 73 ∨ 78 < k) → k ≠ 67 → h1 k = h k) → (∀ j, 1 ≤ j → j < m → br_mk (gw_B T w j) = br_mk (gw_B T w 0)) → eb_V mX10_growsOf (fun _ _ _ => True) 15 [.ref 67, .int (eb_I (w : Int)), .long (eb_J (br_mk (gw_B T w 0) : Int)), eb_no, .int (eb_I (-1)), .int (eb_I (m : Int))] [] (n, 0, 0) h1 (eb_R mX10_growsOf (eb_G (some (.int (eb_I v))) n (fun h' => ((∃ lm, h' 67 = mo (eb_set c 16 lm)) ∧ mlany h' ∧ (∃ wd, h' 73 = eb_ia 40 wd) ∧ ∃ be, h' 78 = eb_ia 42 be) ∧ ∀ k, (k < 73 ∨ 78 < k) → k ≠ 67 → h' k = h k))) := by
    intro d
    induction d with
    | zero =>
      intro m h1 lm wd1 be1 hm1 hmd H_this HM1 HW1 hwd1 HB1 hfr g
      have hv1 : v = -1 := lc_none hv (fun j hj => hj.2 (g j hj.1.1 (by omega)))
      have F := fin h1 (.int (eb_I (m : Int))) c wd1 be1 ⟨lm, H_this⟩ HM1 HW1 HB1 hfr
      rw [hv1] at F ⊢
      refine V_iload eX10_growsOf_15 rfl ?_
      refine V_bipush eX10_growsOf_17 (by decide) ?_
      refine V_icmp_gt (tgt := 74) eX10_growsOf_19 rfl (by omega) (fun c_19 => ?_) (fun c_19 => ?_)
      · exact F
      · exact absurd (by omega) c_19
    | succ d ih =>
      intro m h1 lm wd1 be1 hm1 hmd H_this HM1 HW1 hwd1 HB1 hfr g
      have H_this_wide := HW1
      have hst1 : h1 68 = eb_ia 525 sf := (hfr 68 (by omega) (by omega)).trans H_this_st
      have hb0 := bl 0 (by omega)
      have hbm := bl m (by omega)
      obtain ⟨u1, u2⟩ := bu m (by omega)
      have hwd2 : ∀ k, k < T.1.length → eb_set wd1 w (wd1 w + 1) k = gw_wf T w m k := fun k hk => by
        unfold eb_set
        by_cases y : k = w
        · rw [if_pos y, hwd1 w hw, y]
          unfold gw_wf
          rw [if_pos rfl, if_pos rfl]
          omega
        · rw [if_neg y, hwd1 k hk]
          unfold gw_wf
          rw [if_neg y, if_neg y]
      obtain ⟨h2, hh2⟩ : ∃ h2, h2 = eb_up h1 73 (eb_ia 40 (eb_set wd1 w (wd1 w + 1))) := ⟨_, rfl⟩
      have k2 : ∀ k, k ≠ 73 → h2 k = h1 k := fun k hk => by rw [hh2, eb_up, if_neg hk]
      have T2 : h2 67 = mo (eb_set c 16 lm) := (k2 67 (by omega)).trans H_this
      have S2 : h2 68 = eb_ia 525 sf := (k2 68 (by omega)).trans hst1
      have W2 : h2 73 = eb_ia 40 (eb_set wd1 w (wd1 w + 1)) := by rw [hh2]; exact eb_up_s
      have M2 : mlany h2 := HM1.kept (fun k a b => k2 k (by omega))
      have TL := c_X10_layBy (n := n) T2 S2 hm HO W2 hwd2 (gw_ok HO (w := w) (m := m) (by omega)) M2
      have B2 : h2 78 = eb_ia 42 be1 := (k2 78 (by omega)).trans HB1
      have nxt : ∀ (h4 : eb_H) (x : Int), h4 67 = mo (eb_set (eb_set c 16 lm) 16 ((gw_B T w m).length : Int)) → mB h4 (gw_B T w m) T.1.length → mlany h4 → h4 73 = eb_ia 40 (eb_set wd1 w (wd1 w + 1)) → (∀ k, (k < 73 ∨ 78 < k) → k ≠ 67 → h4 k = h k) → x = (if br_mk (gw_B T w m) = br_mk (gw_B T w 0) then -1 else (m : Int)) → eb_V mX10_growsOf (fun _ _ _ => True) 66 [.ref 67, .int (eb_I (w : Int)), .long (eb_J (br_mk (gw_B T w 0) : Int)), eb_no, .int (eb_I (-1)), .int (eb_I (m : Int))] [.int (eb_I x)] (n, 0, 0) h4 (eb_R mX10_growsOf (eb_G (some (.int (eb_I v))) n (fun h' => ((∃ lm, h' 67 = mo (eb_set c 16 lm)) ∧ mlany h' ∧ (∃ wd, h' 73 = eb_ia 40 wd) ∧ ∃ be, h' 78 = eb_ia 42 be) ∧ ∀ k, (k < 73 ∨ 78 < k) → k ≠ 67 → h' k = h k))) := by
        intro h4 x A1 A2 A3 A4 A5 hx
        obtain ⟨be4, A2, -⟩ := A2
        have A1' : h4 67 = mo (eb_set c 16 ((gw_B T w m).length : Int)) := A1
        by_cases cc : br_mk (gw_B T w m) = br_mk (gw_B T w 0)
        · rw [if_pos cc] at hx
          subst hx
          refine V_istore eX10_growsOf_66 (Nat.le_of_ble_eq_true rfl) rfl (eb_sS (eb_sS (eb_sS (eb_sS eb_s0)))) ?_
          refine V_iinc eX10_growsOf_68 rfl rfl (eb_sS (eb_sS (eb_sS (eb_sS (eb_sS eb_s0))))) ?_
          refine V_goto (tgt := 15) eX10_growsOf_71 rfl ?_
          exact ih (m + 1) h4 _ _ be4 (by omega) (by omega) A1' A3 A4 (by rw [Nat.add_sub_cancel]; exact hwd2) A2 A5 (fun j j1 j2 => by
            rcases Nat.lt_or_ge j m with z | z
            · exact g j j1 z
            · have : j = m := by omega
              subst this
              exact cc)
        · rw [if_neg cc] at hx
          subst hx
          have hvm : v = (m : Int) := lc_at hv ⟨⟨hm1, by omega⟩, cc⟩ (fun j hj => by
            rcases Nat.lt_or_ge j m with z | z
            · exact absurd (g j hj.1.1 z) hj.2
            · exact z)
          have F := fin h4 (.int (eb_I ((m : Int) + 1))) c _ be4 ⟨_, A1'⟩ A3 A4 A2 A5
          rw [hvm] at F ⊢
          refine V_istore eX10_growsOf_66 (Nat.le_of_ble_eq_true rfl) rfl (eb_sS (eb_sS (eb_sS (eb_sS eb_s0)))) ?_
          refine V_iinc eX10_growsOf_68 rfl rfl (eb_sS (eb_sS (eb_sS (eb_sS (eb_sS eb_s0))))) ?_
          refine V_goto (tgt := 15) eX10_growsOf_71 rfl ?_
          refine V_iload eX10_growsOf_15 rfl ?_
          refine V_bipush eX10_growsOf_17 (by decide) ?_
          refine V_icmp_gt (tgt := 74) eX10_growsOf_19 rfl (by omega) (fun c_19 => ?_) (fun c_19 => ?_)
          · exact F
          · refine V_iload eX10_growsOf_22 rfl ?_
            refine V_if_ge (tgt := 74) eX10_growsOf_24 rfl (by omega) (fun c_24 => ?_) (fun c_24 => ?_)
            · exact F
            · exact absurd (by omega) c_24
      by_cases cc : br_mk (gw_B T w m) = br_mk (gw_B T w 0)
      · refine V_iload eX10_growsOf_15 rfl ?_
        refine V_bipush eX10_growsOf_17 (by decide) ?_
        refine V_icmp_gt (tgt := 74) eX10_growsOf_19 rfl (by omega) (fun c_19 => ?_) (fun c_19 => ?_)
        · exact absurd c_19 (by omega)
        · refine V_iload eX10_growsOf_22 rfl ?_
          refine V_if_ge (tgt := 74) eX10_growsOf_24 rfl (by omega) (fun c_24 => ?_) (fun c_24 => ?_)
          · exact absurd c_24 (by omega)
          · refine V_aload_n eX10_growsOf_27 rfl rfl ?_
            refine V_getf eX10_growsOf_28 H_this rfl ?_
            refine V_iload_n eX10_growsOf_31 rfl rfl ?_
            refine V_dup2 eX10_growsOf_32 rfl rfl ?_
            refine V_iald eX10_growsOf_33 H_this_wide (by omega) ?_
            refine V_iconst eX10_growsOf_34 ?_
            refine V_iadd eX10_growsOf_35 ?_
            refine V_iast eX10_growsOf_36 H_this_wide (by omega) ?_
            simp only [Int.toNat_natCast]
            rw [← hh2]
            refine V_aload_n eX10_growsOf_37 rfl rfl ?_
            refine V_aload_n eX10_growsOf_38 rfl rfl ?_
            refine V_getf eX10_growsOf_39 T2 rfl ?_
            refine V_iconst eX10_growsOf_42 ?_
            refine V_iald eX10_growsOf_43 S2 (by omega) ?_
            rw [e1]
            refine V_cvg eX10_growsOf_44 (TL) T2 rfl rfl (Nat.le_of_ble_eq_true rfl) ⟨rfl, rfl⟩ ⟨Nat.zero_le _, Nat.zero_le _⟩ (fun h3 ⟨HM3, hfr3⟩ => ?_)
            show eb_V _ _ 47 _ [] _ _ _
            have T3 : h3 67 = mo (eb_set c 16 lm) := (hfr3 67 (by omega)).trans T2
            have S3 : h3 68 = eb_ia 525 sf := (hfr3 68 (by omega)).trans S2
            obtain ⟨up, co, to, ow, U, C, O, W, q1, q2, q3, q4⟩ := id HM3
            refine V_aload_n eX10_growsOf_47 rfl rfl ?_
            refine V_cvg eX10_growsOf_48 (c_X10_breakLines T3 S3 hm.1 hN W (lt_brok (gw_ok HO (w := w) (m := m) (by omega))) q4 ((hfr3 78 (by omega)).trans B2)) T3 rfl rfl (Nat.le_of_ble_eq_true rfl) ⟨rfl, rfl⟩ ⟨Nat.zero_le _, Nat.zero_le _⟩ (fun h4 ⟨⟨T4, B4⟩, hfr4⟩ => ?_)
            show eb_V _ _ 51 _ [] _ _ _
            have T4 : h4 67 = mo (eb_set (eb_set c 16 lm) 16 ((gw_B T w m).length : Int)) := T4
            have B4 : mB h4 (gw_B T w m) T.1.length := B4
            have k4 : ∀ k, (k < 73 ∨ 78 < k) → k ≠ 67 → h4 k = h k := fun k a b => (((hfr4 k b (by omega)).trans (hfr3 k (by omega))).trans (k2 k (by omega))).trans (hfr k a b)
            have M4 : mlany h4 := ml.any (HM3.kept (fun k a b => hfr4 k (by omega) (by omega)))
            have W4 : h4 73 = _ := ((hfr4 73 (by omega) (by omega)).trans (hfr3 73 (by omega))).trans W2
            refine V_aload_n eX10_growsOf_51 rfl rfl ?_
            refine V_cvi eX10_growsOf_52 (c_X10_beginSet T4 rfl B4 u1 u2) T4 rfl rfl (Nat.le_of_ble_eq_true rfl) ⟨rfl, rfl⟩ ⟨Nat.zero_le _, Nat.zero_le _⟩ ?_
            refine V_lload_n eX10_growsOf_55 rfl rfl ?_
            refine V_lcmpI eX10_growsOf_56 (by omega) ?_
            rw [eb_cmp0 (by rw [cc])]
            refine V_if_ne (tgt := 64) eX10_growsOf_57 rfl (by omega) (fun c_57 => ?_) (fun c_57 => ?_)
            · exact absurd rfl c_57
            · refine V_iconst eX10_growsOf_60 ?_
              refine V_goto (tgt := 66) eX10_growsOf_61 rfl ?_
              exact nxt h4 _ T4 B4 M4 W4 k4 (by rw [if_pos cc])
      · obtain ⟨y, hy, hy0, hyr⟩ := eb_cmpn (a := ((br_mk (gw_B T w m) : Nat) : Int)) (b := ((br_mk (gw_B T w 0) : Nat) : Int)) (by omega)
        refine V_iload eX10_growsOf_15 rfl ?_
        refine V_bipush eX10_growsOf_17 (by decide) ?_
        refine V_icmp_gt (tgt := 74) eX10_growsOf_19 rfl (by omega) (fun c_19 => ?_) (fun c_19 => ?_)
        · exact absurd c_19 (by omega)
        · refine V_iload eX10_growsOf_22 rfl ?_
          refine V_if_ge (tgt := 74) eX10_growsOf_24 rfl (by omega) (fun c_24 => ?_) (fun c_24 => ?_)
          · exact absurd c_24 (by omega)
          · refine V_aload_n eX10_growsOf_27 rfl rfl ?_
            refine V_getf eX10_growsOf_28 H_this rfl ?_
            refine V_iload_n eX10_growsOf_31 rfl rfl ?_
            refine V_dup2 eX10_growsOf_32 rfl rfl ?_
            refine V_iald eX10_growsOf_33 H_this_wide (by omega) ?_
            refine V_iconst eX10_growsOf_34 ?_
            refine V_iadd eX10_growsOf_35 ?_
            refine V_iast eX10_growsOf_36 H_this_wide (by omega) ?_
            simp only [Int.toNat_natCast]
            rw [← hh2]
            refine V_aload_n eX10_growsOf_37 rfl rfl ?_
            refine V_aload_n eX10_growsOf_38 rfl rfl ?_
            refine V_getf eX10_growsOf_39 T2 rfl ?_
            refine V_iconst eX10_growsOf_42 ?_
            refine V_iald eX10_growsOf_43 S2 (by omega) ?_
            rw [e1]
            refine V_cvg eX10_growsOf_44 (TL) T2 rfl rfl (Nat.le_of_ble_eq_true rfl) ⟨rfl, rfl⟩ ⟨Nat.zero_le _, Nat.zero_le _⟩ (fun h3 ⟨HM3, hfr3⟩ => ?_)
            show eb_V _ _ 47 _ [] _ _ _
            have T3 : h3 67 = mo (eb_set c 16 lm) := (hfr3 67 (by omega)).trans T2
            have S3 : h3 68 = eb_ia 525 sf := (hfr3 68 (by omega)).trans S2
            obtain ⟨up, co, to, ow, U, C, O, W, q1, q2, q3, q4⟩ := id HM3
            refine V_aload_n eX10_growsOf_47 rfl rfl ?_
            refine V_cvg eX10_growsOf_48 (c_X10_breakLines T3 S3 hm.1 hN W (lt_brok (gw_ok HO (w := w) (m := m) (by omega))) q4 ((hfr3 78 (by omega)).trans B2)) T3 rfl rfl (Nat.le_of_ble_eq_true rfl) ⟨rfl, rfl⟩ ⟨Nat.zero_le _, Nat.zero_le _⟩ (fun h4 ⟨⟨T4, B4⟩, hfr4⟩ => ?_)
            show eb_V _ _ 51 _ [] _ _ _
            have T4 : h4 67 = mo (eb_set (eb_set c 16 lm) 16 ((gw_B T w m).length : Int)) := T4
            have B4 : mB h4 (gw_B T w m) T.1.length := B4
            have k4 : ∀ k, (k < 73 ∨ 78 < k) → k ≠ 67 → h4 k = h k := fun k a b => (((hfr4 k b (by omega)).trans (hfr3 k (by omega))).trans (k2 k (by omega))).trans (hfr k a b)
            have M4 : mlany h4 := ml.any (HM3.kept (fun k a b => hfr4 k (by omega) (by omega)))
            have W4 : h4 73 = _ := ((hfr4 73 (by omega) (by omega)).trans (hfr3 73 (by omega))).trans W2
            refine V_aload_n eX10_growsOf_51 rfl rfl ?_
            refine V_cvi eX10_growsOf_52 (c_X10_beginSet T4 rfl B4 u1 u2) T4 rfl rfl (Nat.le_of_ble_eq_true rfl) ⟨rfl, rfl⟩ ⟨Nat.zero_le _, Nat.zero_le _⟩ ?_
            refine V_lload_n eX10_growsOf_55 rfl rfl ?_
            refine V_lcmpI eX10_growsOf_56 (by omega) ?_
            rw [hy]
            refine V_if_ne (tgt := 64) eX10_growsOf_57 rfl (by omega) (fun c_57 => ?_) (fun c_57 => ?_)
            · refine V_iload eX10_growsOf_64 rfl ?_
              exact nxt h4 _ T4 B4 M4 W4 k4 (by rw [if_neg cc])
            · exact absurd c_57 hy0
  refine V_aload_n eX10_growsOf_0 rfl rfl ?_
  refine V_cvg eX10_growsOf_1 (c_X10_layLines H_this H_this_st hm HO H_wd HM H_be) H_this rfl rfl (Nat.le_of_ble_eq_true rfl) ⟨rfl, rfl⟩ ⟨Nat.zero_le _, Nat.zero_le _⟩ (fun h1 ⟨⟨⟨T1, B1⟩, M1, wd1, W1, hwd1⟩, hfr1⟩ => ?_)
  show eb_V _ _ 4 _ [] _ _ _
  rw [← h00] at T1 B1
  obtain ⟨be1, B1', -⟩ := id B1
  refine V_aload_n eX10_growsOf_4 rfl rfl ?_
  refine V_cvi eX10_growsOf_5 (c_X10_beginSet T1 rfl B1 (bu 0 (by omega)).1 (bu 0 (by omega)).2) T1 rfl rfl (Nat.le_of_ble_eq_true rfl) ⟨rfl, rfl⟩ ⟨Nat.zero_le _, Nat.zero_le _⟩ ?_
  refine V_lstore_n eX10_growsOf_8 rfl (Nat.le_of_ble_eq_true rfl) rfl (eb_sS (eb_sS eb_s0)) (eb_sS (eb_sS (eb_sS eb_s0))) ?_
  refine V_iconst eX10_growsOf_9 ?_
  refine V_istore eX10_growsOf_10 (Nat.le_of_ble_eq_true rfl) rfl (eb_sS (eb_sS (eb_sS (eb_sS eb_s0)))) ?_
  refine V_iconst eX10_growsOf_12 ?_
  refine V_istore eX10_growsOf_13 (Nat.le_of_ble_eq_true rfl) rfl (eb_sS (eb_sS (eb_sS (eb_sS (eb_sS eb_s0))))) ?_
  exact loop 50 1 h1 _ wd1 be1 (Nat.le_refl _) (by omega) T1 M1.any W1 (fun k hk => by rw [hwd1 k hk]; unfold gw_wf; split <;> simp) B1' hfr1 (fun j j1 j2 => absurd j2 (by omega))
end M3
