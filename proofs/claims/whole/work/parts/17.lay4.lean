/-! a layout that is solved -/
def ly_sv (h : eb_H) (b rt N : Nat) (wf : Nat → Int) (me law fee fr : Int) (ro : Nat → Int) : Prop := ∃ pl to ow lb, ly_at h b rt N me law fee fr ((lt_B (N, wf, me, law, fee, fr)).length : Int) (br_mk (lt_B (N, wf, me, law, fee, fr))) pl to ow lb ro ∧ (∀ k, k ≤ N → pl k = lt_pl wf k) ∧ (∀ e, e ≤ N → to e = dp_t (lt_c (N, wf, me, law, fee, fr)) e) ∧ (ow 0 = -1 ∧ ∀ e, 0 < e → e ≤ N → ow e = dp_o (lt_c (N, wf, me, law, fee, fr)) e) ∧ (∀ k (hk : k < (lt_B (N, wf, me, law, fee, fr)).length), lb k = ((lt_B (N, wf, me, law, fee, fr))[k] : Int))
/-! a text: its words, and by what it is broken -/
abbrev tx_obj (t N : Nat) (me law fee fr : Int) : va_E := .inr (6, [.ref (t + 1), .int (eb_I (N : Int)), .int (eb_I me), .int (eb_I law), .int (eb_I fee), .int (eb_I fr)])
def tx_at (h : eb_H) (t : Nat) (ws : List (List Nat)) (me law fee fr : Int) : Prop := h t = tx_obj t ws.length me law fee fr ∧ ∃ f : Nat → Int, h (t + 1) = eb_la 40 f ∧ ∀ w (hw : w < ws.length), f w = (sp_enc ws[w] : Int)
def tx_ok (ws : List (List Nat)) (me law fee fr : Int) : Prop := ly_ok ws.length me law fee fr ∧ ∀ l ∈ ws, sp_ok l ∧ 0 < l.length
def tx_wf (ws : List (List Nat)) (w : Nat) : Int := match ws[w]? with
  | some l => sp_ww l
  | none => 0
theorem tx_wf_at {ws : List (List Nat)} {w : Nat} (hw : w < ws.length) : tx_wf ws w = sp_ww ws[w] := by simp [tx_wf, hw]
theorem tx_wok {ws : List (List Nat)} {me law fee fr : Int} (h : tx_ok ws me law fee fr) : lt_wok ws.length (tx_wf ws) := fun k hk => by
  rw [tx_wf_at hk]
  have h1 := h.2 ws[k] (List.getElem_mem hk)
  have h2 := sp_ww_r ws[k]
  have h3 := h1.1.2
  omega
theorem tx_lok {ws : List (List Nat)} {me law fee fr : Int} (h : tx_ok ws me law fee fr) : lt_ok (ws.length, tx_wf ws, me, law, fee, fr) := ⟨h.1, tx_wok h⟩
def br_ln (B : List Nat) (w : Nat) : Nat → Nat → Nat
  | 0, k => k
  | f + 1, k => if k + 1 < B.length ∧ B.getD (k + 1) 0 ≤ w then br_ln B w f (k + 1) else k
section LY4
variable {n : Nat} {h : eb_H} {b rt N bg : Nat} {me law fee fr lines : Int} {pl to ow lb ro : Nat → Int} {wf : Nat → Int}
theorem c_X3_solve (HL : ly_at h b rt N me law fee fr lines bg pl to ow lb ro) (hrt : rt < b) (hq : lt_ok (N, wf, me, law, fee, fr)) (hpl : ∀ k, k ≤ N → pl k = lt_pl wf k) : eb_T mX3_solve [.ref b] n h (eb_G none n (fun h' => ly_sv h' b rt N wf me law fee fr ro ∧ ly_fr h h' b)) := by
  refine eb_T.of (by decide +kernel) (Nat.le_of_ble_eq_true rfl) ?_
  show eb_V _ _ 0 [.ref b, eb_no] [] (n, 0, 0) h _
  have hN : N ≤ 40 := hq.1.1
  generalize hG : (fun h' => ly_sv h' b rt N wf me law fee fr ro ∧ ly_fr h h' b) = G
  have loop : ∀ (d e : Nat) (h1 : eb_H) (to1 ow1 : Nat → Int), 0 < e → e + d = N + 1 → ly_at h1 b rt N me law fee fr lines bg pl to1 ow1 lb ro → ly_fr h h1 b → (∀ i, i < e → to1 i = dp_t (lt_c (N, wf, me, law, fee, fr)) i) → (ow1 0 = -1 ∧ ∀ i, 0 < i → i < e → ow1 i = dp_o (lt_c (N, wf, me, law, fee, fr)) i) → eb_V mX3_solve (fun _ _ _ => True) 16 [.ref b, .int (eb_I (e : Int))] [] (n, 0, 0) h1 (eb_R mX3_solve (eb_G none n G)) := by
    intro d
    induction d with
    | zero =>
      intro e h1 to1 ow1 he hed HL1 hfr g1 g2
      have HL1' := HL1
      obtain ⟨H_this, H_this_place, H_this_total, H_this_owner, H_this_lineBegin, H_this_row, H_this_roots⟩ := HL1
      refine V_iload_n eX3_solve_16 rfl rfl ?_
      refine V_aload_n eX3_solve_17 rfl rfl ?_
      refine V_getf eX3_solve_18 H_this rfl ?_
      refine V_icmp_gt (tgt := 35) eX3_solve_21 rfl (by omega) (fun c_21 => ?_) (fun c_21 => ?_)
      · refine V_aload_n eX3_solve_35 rfl rfl ?_
        refine V_cvg eX3_solve_36 (c_X3_layLines HL1' hrt hN (lt_brok hq) (fun i hi hi2 => g2.2 i hi (by omega))) H_this rfl rfl (Nat.le_of_ble_eq_true rfl) ⟨rfl, rfl⟩ ⟨Nat.zero_le _, Nat.zero_le _⟩ (fun h2 ⟨lb2, HL2, hlb, hfr2⟩ => ?_)
        exact V_vret eX3_solve_39 ⟨Nat.zero_le _, Nat.zero_le _⟩ rfl (⟨rfl, rfl, by rw [← hG]; exact ⟨⟨pl, to1, ow1, lb2, HL2, hpl, fun i hi => g1 i (by omega), ⟨g2.1, fun i hi hi2 => g2.2 i hi (by omega)⟩, hlb⟩, hfr.tr hfr2⟩⟩)
      · exact absurd (by omega) c_21
    | succ d ih =>
      intro e h1 to1 ow1 he hed HL1 hfr g1 g2
      have HL1' := HL1
      have HL3 := ly_u3 (f := eb_set ow1 e (dp_o (lt_c (N, wf, me, law, fee, fr)) e)) (ly_u2 (f := eb_set to1 e (dp_t (lt_c (N, wf, me, law, fee, fr)) e)) HL1' hrt) hrt
      have hfr3 := (hfr.up (a := b + 2) (e := eb_ia 41 (eb_set to1 e (dp_t (lt_c (N, wf, me, law, fee, fr)) e))) (by omega)).up (a := b + 3) (e := eb_ia 41 (eb_set ow1 e (dp_o (lt_c (N, wf, me, law, fee, fr)) e))) (by omega)
      obtain ⟨H_this, H_this_place, H_this_total, H_this_owner, H_this_lineBegin, H_this_row, H_this_roots⟩ := HL1
      refine V_iload_n eX3_solve_16 rfl rfl ?_
      refine V_aload_n eX3_solve_17 rfl rfl ?_
      refine V_getf eX3_solve_18 H_this rfl ?_
      refine V_icmp_gt (tgt := 35) eX3_solve_21 rfl (by omega) (fun c_21 => ?_) (fun c_21 => ?_)
      · exact absurd c_21 (by omega)
      · refine V_aload_n eX3_solve_24 rfl rfl ?_
        refine V_iload_n eX3_solve_25 rfl rfl ?_
        refine V_cvv eX3_solve_26 (c_X3_settle HL1' hq hpl ⟨he, by omega⟩ g1) H_this rfl rfl (Nat.le_of_ble_eq_true rfl) ⟨rfl, rfl⟩ ⟨Nat.zero_le _, Nat.zero_le _⟩ ?_
        refine V_iinc eX3_solve_29 rfl rfl (eb_sS eb_s0) ?_
        refine V_goto (tgt := 16) eX3_solve_32 rfl ?_
        refine ih (e + 1) _ _ _ (by omega) (by omega) HL3 hfr3 (fun i hi => ?_) ⟨?_, fun i hi hi2 => ?_⟩
        · unfold eb_set
          by_cases z : i = e
          · rw [if_pos z, z]
          · rw [if_neg z]
            exact g1 i (by omega)
        · unfold eb_set
          rw [if_neg (by omega)]
          exact g2.1
        · unfold eb_set
          by_cases z : i = e
          · rw [if_pos z, z]
          · rw [if_neg z]
            exact g2.2 i hi (by omega)
  have HL3 := ly_u3 (f := eb_set ow 0 (-1)) (ly_u2 (f := eb_set to 0 0) HL hrt) hrt
  obtain ⟨H_this, H_this_place, H_this_total, H_this_owner, H_this_lineBegin, H_this_row, H_this_roots⟩ := HL
  refine V_aload_n eX3_solve_0 rfl rfl ?_
  refine V_getf eX3_solve_1 H_this rfl ?_
  refine V_iconst eX3_solve_4 ?_
  refine V_iconst eX3_solve_5 ?_
  refine V_iast eX3_solve_6 H_this_total (by omega) ?_
  refine V_aload_n eX3_solve_7 rfl rfl ?_
  refine V_getf eX3_solve_8 (eb_up_n (by omega) H_this) rfl ?_
  refine V_iconst eX3_solve_11 ?_
  refine V_iconst eX3_solve_12 ?_
  refine V_iast eX3_solve_13 (eb_up_n (by omega) H_this_owner) (by omega) ?_
  refine V_iconst eX3_solve_14 ?_
  refine V_istore_n eX3_solve_15 rfl (Nat.le_of_ble_eq_true rfl) rfl (eb_sS eb_s0) ?_
  refine loop N 1 _ _ _ (by omega) (by omega) HL3 ((ly_fr.rf.up (by omega)).up (by omega)) (fun i hi => ?_) ⟨rfl, fun i hi hi2 => absurd hi2 (by omega)⟩
  have : i = 0 := by omega
  subst this
  rfl
theorem c_X3_widen {w : Nat} (HL : ly_at h b rt N me law fee fr lines bg pl to ow lb ro) (hrt : rt < b) (hN : N ≤ 40) (hw : w < N) : eb_T mX3_widen [.ref b, .int (eb_I (w : Int)), .int (eb_I 1)] n h (eb_G none n (fun h' => (∃ pl', ly_at h' b rt N me law fee fr lines bg pl' to ow lb ro ∧ ∀ e, e ≤ N → pl' e = if w < e then pl e + 1 else pl e) ∧ ly_fr h h' b)) := by
  refine eb_T.of (by decide +kernel) (Nat.le_of_ble_eq_true rfl) ?_
  show eb_V _ _ 0 [.ref b, .int (eb_I (w : Int)), .int (eb_I 1), eb_no] [] (n, 0, 0) h _
  generalize hG : (fun h' => (∃ pl', ly_at h' b rt N me law fee fr lines bg pl' to ow lb ro ∧ ∀ e, e ≤ N → pl' e = if w < e then pl e + 1 else pl e) ∧ ly_fr h h' b) = G
  have loop : ∀ (d e : Nat) (h1 : eb_H) (pl1 : Nat → Int), w < e → e + d = N + 1 → ly_at h1 b rt N me law fee fr lines bg pl1 to ow lb ro → ly_fr h h1 b → (∀ i, i ≤ N → pl1 i = if w < i ∧ i < e then pl i + 1 else pl i) → eb_V mX3_widen (fun _ _ _ => True) 4 [.ref b, .int (eb_I (w : Int)), .int (eb_I 1), .int (eb_I (e : Int))] [] (n, 0, 0) h1 (eb_R mX3_widen (eb_G none n G)) := by
    intro d
    induction d with
    | zero =>
      intro e h1 pl1 he hed HL1 hfr g
      have HL1' := HL1
      obtain ⟨H_this, H_this_place, H_this_total, H_this_owner, H_this_lineBegin, H_this_row, H_this_roots⟩ := HL1
      refine V_iload_n eX3_widen_4 rfl rfl ?_
      refine V_aload_n eX3_widen_5 rfl rfl ?_
      refine V_getf eX3_widen_6 H_this rfl ?_
      refine V_icmp_gt (tgt := 28) eX3_widen_9 rfl (by omega) (fun c_9 => ?_) (fun c_9 => ?_)
      · exact V_vret eX3_widen_28 ⟨Nat.zero_le _, Nat.zero_le _⟩ rfl (⟨rfl, rfl, by rw [← hG]; exact ⟨⟨pl1, HL1', fun i hi => by rw [g i hi]; simp only [show (w < i ∧ i < e) ↔ w < i from ⟨fun q => q.1, fun q => ⟨q, by omega⟩⟩]⟩, hfr⟩⟩)
      · exact absurd (by omega) c_9
    | succ d ih =>
      intro e h1 pl1 he hed HL1 hfr g
      have HL1' := HL1
      have HL3 := ly_u1 (f := eb_set pl1 ((e : Nat) : Int).toNat (pl1 ((e : Nat) : Int).toNat + 1)) HL1' hrt
      obtain ⟨H_this, H_this_place, H_this_total, H_this_owner, H_this_lineBegin, H_this_row, H_this_roots⟩ := HL1
      refine V_iload_n eX3_widen_4 rfl rfl ?_
      refine V_aload_n eX3_widen_5 rfl rfl ?_
      refine V_getf eX3_widen_6 H_this rfl ?_
      refine V_icmp_gt (tgt := 28) eX3_widen_9 rfl (by omega) (fun c_9 => ?_) (fun c_9 => ?_)
      · exact absurd c_9 (by omega)
      · refine V_aload_n eX3_widen_12 rfl rfl ?_
        refine V_getf eX3_widen_13 H_this rfl ?_
        refine V_iload_n eX3_widen_16 rfl rfl ?_
        refine V_dup2 eX3_widen_17 rfl rfl ?_
        refine V_iald eX3_widen_18 H_this_place (by omega) ?_
        refine V_iload_n eX3_widen_19 rfl rfl ?_
        refine V_iadd eX3_widen_20 ?_
        refine V_iast eX3_widen_21 H_this_place (by omega) ?_
        refine V_iinc eX3_widen_22 rfl rfl (eb_sS (eb_sS (eb_sS eb_s0))) ?_
        refine V_goto (tgt := 4) eX3_widen_25 rfl ?_
        refine ih (e + 1) _ _ (by omega) (by omega) HL3 (hfr.up (by omega)) (fun i hi => ?_)
        simp only [Int.toNat_natCast]
        unfold eb_set
        by_cases z : i = e
        · subst z
          rw [if_pos rfl, g i hi, if_neg (by omega), if_pos (by omega)]
        · rw [if_neg z, g i hi]
          by_cases y : w < i ∧ i < e
          · rw [if_pos y, if_pos (by omega)]
          · rw [if_neg y, if_neg (by omega)]
  refine V_iload_n eX3_widen_0 rfl rfl ?_
  refine V_iconst eX3_widen_1 ?_
  refine V_iadd eX3_widen_2 ?_
  refine V_istore_n eX3_widen_3 rfl (Nat.le_of_ble_eq_true rfl) rfl (eb_sS (eb_sS (eb_sS eb_s0))) ?_
  exact loop (N - w) (w + 1) h pl (by omega) (by omega) HL ly_fr.rf (fun i hi => by rw [if_neg (by omega)])
theorem c_X3_lineOf {w : Nat} {B : List Nat} (HL : ly_at h b rt N me law fee fr (B.length : Int) bg pl to ow lb ro) (hB : B.length ≤ 40) (hb : ∀ x ∈ B, x < 100) (hw : w ≤ 40) (hlb : ∀ k (hk : k < B.length), lb k = (B[k] : Int)) : eb_T mX3_lineOf [.ref b, .int (eb_I (w : Int))] n h (eb_X (some (.int (eb_I (br_ln B w B.length 0 : Nat)))) n h) := by
  refine eb_T.of (by decide +kernel) (Nat.le_of_ble_eq_true rfl) ?_
  show eb_V _ _ 0 [.ref b, .int (eb_I (w : Int)), eb_no] [] (n, 0, 0) h _
  obtain ⟨H_this, H_this_place, H_this_total, H_this_owner, H_this_lineBegin, H_this_row, H_this_roots⟩ := HL
  have loop : ∀ (f k : Nat), B.length ≤ k + 1 + f → k ≤ 40 → eb_V mX3_lineOf (fun _ _ _ => True) 2 [.ref b, .int (eb_I (w : Int)), .int (eb_I (k : Int))] [] (n, 0, 0) h (eb_R mX3_lineOf (eb_X (some (.int (eb_I (br_ln B w f k : Nat)))) n h)) := by
    intro f
    induction f with
    | zero =>
      intro k hk hk2
      refine V_iload_n eX3_lineOf_2 rfl rfl ?_
      refine V_iconst eX3_lineOf_3 ?_
      refine V_iadd eX3_lineOf_4 ?_
      refine V_aload_n eX3_lineOf_5 rfl rfl ?_
      refine V_getf eX3_lineOf_6 H_this rfl ?_
      refine V_icmp_ge (tgt := 30) eX3_lineOf_9 rfl (by omega) (fun c_9 => ?_) (fun c_9 => ?_)
      · refine V_iload_n eX3_lineOf_30 rfl rfl ?_
        exact V_iret eX3_lineOf_31 ⟨Nat.zero_le _, Nat.zero_le _⟩ rfl (rfl) (⟨rfl, rfl, rfl⟩)
      · exact absurd (by omega) c_9
    | succ f ih =>
      intro k hk hk2
      by_cases c : k + 1 < B.length ∧ B.getD (k + 1) 0 ≤ w
      · have e1 : br_ln B w (f + 1) k = br_ln B w f (k + 1) := by simp only [br_ln]; rw [if_pos c]
        have e2 : lb ((k : Int) + 1).toNat = (B.getD (k + 1) 0 : Int) := by
          rw [show ((k : Int) + 1).toNat = k + 1 by omega, hlb (k + 1) c.1]
          simp [c.1]
        rw [e1]
        refine V_iload_n eX3_lineOf_2 rfl rfl ?_
        refine V_iconst eX3_lineOf_3 ?_
        refine V_iadd eX3_lineOf_4 ?_
        refine V_aload_n eX3_lineOf_5 rfl rfl ?_
        refine V_getf eX3_lineOf_6 H_this rfl ?_
        refine V_icmp_ge (tgt := 30) eX3_lineOf_9 rfl (by omega) (fun c_9 => ?_) (fun c_9 => ?_)
        · exact absurd c_9 (by omega)
        · refine V_aload_n eX3_lineOf_12 rfl rfl ?_
          refine V_getf eX3_lineOf_13 H_this rfl ?_
          refine V_iload_n eX3_lineOf_16 rfl rfl ?_
          refine V_iconst eX3_lineOf_17 ?_
          refine V_iadd eX3_lineOf_18 ?_
          refine V_iald eX3_lineOf_19 H_this_lineBegin (by omega) ?_
          rw [e2]
          refine V_iload_n eX3_lineOf_20 rfl rfl ?_
          refine V_icmp_gt (tgt := 30) eX3_lineOf_21 rfl (by omega) (fun c_21 => ?_) (fun c_21 => ?_)
          · exact absurd c_21 (by omega)
          · refine V_iinc eX3_lineOf_24 rfl rfl (eb_sS (eb_sS eb_s0)) ?_
            refine V_goto (tgt := 2) eX3_lineOf_27 rfl ?_
            exact ih (k + 1) (by omega) (by omega)
      · have e1 : br_ln B w (f + 1) k = k := by simp only [br_ln]; rw [if_neg c]
        rw [e1]
        by_cases c1 : k + 1 < B.length
        · have e2 : lb ((k : Int) + 1).toNat = (B.getD (k + 1) 0 : Int) := by
            rw [show ((k : Int) + 1).toNat = k + 1 by omega, hlb (k + 1) c1]
            simp [c1]
          have e3 : B.getD (k + 1) 0 < 100 := by
            have := hb B[k + 1] (List.getElem_mem c1)
            simp [c1]
            exact this
          refine V_iload_n eX3_lineOf_2 rfl rfl ?_
          refine V_iconst eX3_lineOf_3 ?_
          refine V_iadd eX3_lineOf_4 ?_
          refine V_aload_n eX3_lineOf_5 rfl rfl ?_
          refine V_getf eX3_lineOf_6 H_this rfl ?_
          refine V_icmp_ge (tgt := 30) eX3_lineOf_9 rfl (by omega) (fun c_9 => ?_) (fun c_9 => ?_)
          · exact absurd c_9 (by omega)
          · refine V_aload_n eX3_lineOf_12 rfl rfl ?_
            refine V_getf eX3_lineOf_13 H_this rfl ?_
            refine V_iload_n eX3_lineOf_16 rfl rfl ?_
            refine V_iconst eX3_lineOf_17 ?_
            refine V_iadd eX3_lineOf_18 ?_
            refine V_iald eX3_lineOf_19 H_this_lineBegin (by omega) ?_
            rw [e2]
            refine V_iload_n eX3_lineOf_20 rfl rfl ?_
            refine V_icmp_gt (tgt := 30) eX3_lineOf_21 rfl (by omega) (fun c_21 => ?_) (fun c_21 => ?_)
            · refine V_iload_n eX3_lineOf_30 rfl rfl ?_
              exact V_iret eX3_lineOf_31 ⟨Nat.zero_le _, Nat.zero_le _⟩ rfl (rfl) (⟨rfl, rfl, rfl⟩)
            · exact absurd ⟨c1, by omega⟩ c
        · refine V_iload_n eX3_lineOf_2 rfl rfl ?_
          refine V_iconst eX3_lineOf_3 ?_
          refine V_iadd eX3_lineOf_4 ?_
          refine V_aload_n eX3_lineOf_5 rfl rfl ?_
          refine V_getf eX3_lineOf_6 H_this rfl ?_
          refine V_icmp_ge (tgt := 30) eX3_lineOf_9 rfl (by omega) (fun c_9 => ?_) (fun c_9 => ?_)
          · refine V_iload_n eX3_lineOf_30 rfl rfl ?_
            exact V_iret eX3_lineOf_31 ⟨Nat.zero_le _, Nat.zero_le _⟩ rfl (rfl) (⟨rfl, rfl, rfl⟩)
          · exact absurd (by omega) c_9
  refine V_iconst eX3_lineOf_0 ?_
  refine V_istore_n eX3_lineOf_1 rfl (Nat.le_of_ble_eq_true rfl) rfl (eb_sS (eb_sS eb_s0)) ?_
  exact loop B.length 0 (by omega) (by omega)
theorem c_X3_load {t : Nat} {ws : List (List Nat)} {N0 : Nat} {me0 law0 fee0 fr0 : Int} (HL : ly_at h b rt N0 me0 law0 fee0 fr0 lines bg pl to ow lb ro) (hrt : rt < b) (HT : tx_at h t ws me law fee fr) (HO : tx_ok ws me law fee fr) (ht : t + 1 < b) : eb_T mX3_load [.ref b, .ref t] n h (eb_G none n (fun h' => (∃ pl', ly_at h' b rt ws.length me law fee fr lines bg pl' to ow lb ro ∧ ∀ k, k ≤ ws.length → pl' k = lt_pl (tx_wf ws) k) ∧ ly_fr h h' b)) := by
  refine eb_T.of (by decide +kernel) (Nat.le_of_ble_eq_true rfl) ?_
  show eb_V _ _ 0 [.ref b, .ref t, eb_no] [] (n, 0, 0) h _
  have hN : ws.length ≤ 40 := HO.1.1
  obtain ⟨H_p1, f, H_p1_words, hf⟩ := HT
  have hfr0 := HO.1.2.2.2.2
  generalize hG : (fun h' => (∃ pl', ly_at h' b rt ws.length me law fee fr lines bg pl' to ow lb ro ∧ ∀ k, k ≤ ws.length → pl' k = lt_pl (tx_wf ws) k) ∧ ly_fr h h' b) = G
  have loop : ∀ (d w : Nat) (h1 : eb_H) (pl1 : Nat → Int), w + d = ws.length → ly_at h1 b rt ws.length me law fee fr lines bg pl1 to ow lb ro → ly_fr h h1 b → (∀ k, k ≤ w → pl1 k = lt_pl (tx_wf ws) k) → eb_V mX3_load (fun _ _ _ => True) 49 [.ref b, .ref t, .int (eb_I (w : Int))] [] (n, 0, 0) h1 (eb_R mX3_load (eb_G none n G)) := by
    intro d
    induction d with
    | zero =>
      intro w h1 pl1 hwd HL1 hfr g
      have HL1' := HL1
      obtain ⟨H_this, H_this_place, H_this_total, H_this_owner, H_this_lineBegin, H_this_row, H_this_roots⟩ := HL1
      refine V_iload_n eX3_load_49 rfl rfl ?_
      refine V_aload_n eX3_load_50 rfl rfl ?_
      refine V_getf eX3_load_51 H_this rfl ?_
      refine V_icmp_ge (tgt := 89) eX3_load_54 rfl (by omega) (fun c_54 => ?_) (fun c_54 => ?_)
      · exact V_vret eX3_load_89 ⟨Nat.zero_le _, Nat.zero_le _⟩ rfl (⟨rfl, rfl, by rw [← hG]; exact ⟨⟨pl1, HL1', fun k hk => g k (by omega)⟩, hfr⟩⟩)
      · exact absurd (by omega) c_54
    | succ d ih =>
      intro w h1 pl1 hwd HL1 hfr g
      have HL1' := HL1
      have hwl : w < ws.length := by omega
      have hle := HO.2 ws[w] (List.getElem_mem hwl)
      have H_p1 : h1 t = tx_obj t ws.length me law fee fr := (hfr t (by omega)).trans H_p1
      have H_p1_words : h1 (t + 1) = eb_la 40 f := (hfr (t + 1) (by omega)).trans H_p1_words
      have HL3 := ly_u1 (f := eb_set pl1 ((w : Int) + 1).toNat (pl1 ((w : Nat) : Int).toNat + sp_ww ws[w] + 1)) HL1' hrt
      obtain ⟨H_this, H_this_place, H_this_total, H_this_owner, H_this_lineBegin, H_this_row, H_this_roots⟩ := HL1
      refine V_iload_n eX3_load_49 rfl rfl ?_
      refine V_aload_n eX3_load_50 rfl rfl ?_
      refine V_getf eX3_load_51 H_this rfl ?_
      refine V_icmp_ge (tgt := 89) eX3_load_54 rfl (by omega) (fun c_54 => ?_) (fun c_54 => ?_)
      · exact absurd c_54 (by omega)
      · refine V_aload_n eX3_load_57 rfl rfl ?_
        refine V_getf eX3_load_58 H_this rfl ?_
        refine V_iload_n eX3_load_61 rfl rfl ?_
        refine V_iconst eX3_load_62 ?_
        refine V_iadd eX3_load_63 ?_
        refine V_aload_n eX3_load_64 rfl rfl ?_
        refine V_getf eX3_load_65 H_this rfl ?_
        refine V_iload_n eX3_load_68 rfl rfl ?_
        refine V_iald eX3_load_69 H_this_place (by omega) ?_
        refine V_aload_n eX3_load_70 rfl rfl ?_
        refine V_getf eX3_load_71 H_p1 rfl ?_
        refine V_iload_n eX3_load_74 rfl rfl ?_
        refine V_lald eX3_load_75 H_p1_words (by omega) ?_
        rw [show f ((w : Nat) : Int).toNat = (sp_enc ws[w] : Int) by rw [Int.toNat_natCast]; exact hf w hwl]
        refine V_csi eX3_load_76 (c_X5_widthOf hle.1) rfl rfl (Nat.le_of_ble_eq_true rfl) ⟨rfl, rfl⟩ ⟨Nat.zero_le _, Nat.zero_le _⟩ ?_
        refine V_iadd eX3_load_79 ?_
        refine V_iconst eX3_load_80 ?_
        refine V_iadd eX3_load_81 ?_
        refine V_iast eX3_load_82 H_this_place (by omega) ?_
        refine V_iinc eX3_load_83 rfl rfl (eb_sS (eb_sS eb_s0)) ?_
        refine V_goto (tgt := 49) eX3_load_86 rfl ?_
        refine ih (w + 1) _ _ (by omega) HL3 (hfr.up (by omega)) (fun k hk => ?_)
        rw [show ((w : Int) + 1).toNat = w + 1 by omega, Int.toNat_natCast]
        unfold eb_set
        by_cases z : k = w + 1
        · rw [if_pos z, g w (Nat.le_refl _), z]
          simp only [lt_pl]
          rw [tx_wf_at hwl]
        · rw [if_neg z]
          exact g k (by omega)
  have HL3 := ly_u1 (f := eb_set pl 0 0) (ly_u0 (N' := ws.length) (bg' := bg) (me' := me) (law' := law) (fee' := fee) (fr' := fr) (lines' := lines) HL hrt) hrt
  obtain ⟨H_this, H_this_place, H_this_total, H_this_owner, H_this_lineBegin, H_this_row, H_this_roots⟩ := HL
  have hcol : ∀ e1 e2 e3 e4 e5 : va_E, eb_up (eb_up (eb_up (eb_up (eb_up h b e1) b e2) b e3) b e4) b e5 = eb_up h b e5 := by
    intro e1 e2 e3 e4 e5
    funext k
    unfold eb_up
    by_cases z : k = b <;> simp [z]
  refine V_aload_n eX3_load_0 rfl rfl ?_
  refine V_aload_n eX3_load_1 rfl rfl ?_
  refine V_getf eX3_load_2 H_p1 rfl ?_
  refine V_putf eX3_load_5 H_this eb_fitI (eb_sS (eb_sS (eb_sS (eb_sS (eb_sS (eb_sS eb_s0)))))) (Nat.le_of_ble_eq_true rfl) ?_
  refine V_aload_n eX3_load_8 rfl rfl ?_
  refine V_aload_n eX3_load_9 rfl rfl ?_
  refine V_getf eX3_load_10 (eb_up_n (by omega) H_p1) rfl ?_
  refine V_putf eX3_load_13 eb_up_s eb_fitI (eb_sS (eb_sS (eb_sS (eb_sS (eb_sS (eb_sS (eb_sS eb_s0))))))) (Nat.le_of_ble_eq_true rfl) ?_
  refine V_aload_n eX3_load_16 rfl rfl ?_
  refine V_aload_n eX3_load_17 rfl rfl ?_
  refine V_getf eX3_load_18 (eb_up_n (by omega) (eb_up_n (by omega) H_p1)) rfl ?_
  refine V_putf eX3_load_21 eb_up_s eb_fitI (eb_sS (eb_sS (eb_sS (eb_sS (eb_sS (eb_sS (eb_sS (eb_sS eb_s0)))))))) (Nat.le_of_ble_eq_true rfl) ?_
  refine V_aload_n eX3_load_24 rfl rfl ?_
  refine V_aload_n eX3_load_25 rfl rfl ?_
  refine V_getf eX3_load_26 (eb_up_n (by omega) (eb_up_n (by omega) (eb_up_n (by omega) H_p1))) rfl ?_
  refine V_putf eX3_load_29 eb_up_s eb_fitI (eb_sS (eb_sS (eb_sS (eb_sS (eb_sS (eb_sS (eb_sS (eb_sS (eb_sS eb_s0))))))))) (Nat.le_of_ble_eq_true rfl) ?_
  refine V_aload_n eX3_load_32 rfl rfl ?_
  refine V_aload_n eX3_load_33 rfl rfl ?_
  refine V_getf eX3_load_34 (eb_up_n (by omega) (eb_up_n (by omega) (eb_up_n (by omega) (eb_up_n (by omega) H_p1)))) rfl ?_
  refine V_putf eX3_load_37 eb_up_s (eb_fitZ (hfr0)) (eb_sS (eb_sS (eb_sS (eb_sS (eb_sS (eb_sS (eb_sS (eb_sS (eb_sS (eb_sS eb_s0)))))))))) (Nat.le_of_ble_eq_true rfl) ?_
  refine V_aload_n eX3_load_40 rfl rfl ?_
  refine V_getf eX3_load_41 eb_up_s rfl ?_
  refine V_iconst eX3_load_44 ?_
  refine V_iconst eX3_load_45 ?_
  refine V_iast eX3_load_46 (eb_up_n (by omega) (eb_up_n (by omega) (eb_up_n (by omega) (eb_up_n (by omega) (eb_up_n (by omega) H_this_place))))) (by omega) ?_
  rw [hcol]
  refine V_iconst eX3_load_47 ?_
  refine V_istore_n eX3_load_48 rfl (Nat.le_of_ble_eq_true rfl) rfl (eb_sS (eb_sS eb_s0)) ?_
  refine loop ws.length 0 _ _ (by omega) HL3 ((ly_fr.rf.up (by omega)).up (by omega)) (fun k hk => ?_)
  have : k = 0 := by omega
  subst this
  rfl
end LY4
