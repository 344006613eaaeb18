/-! what is typed, read as words -/
def rd_add (ws : List (List Nat)) (len c : Nat) : List (List Nat) := if len = 0 then ws ++ [[c]] else ws.set (ws.length - 1) (ws.getD (ws.length - 1) [] ++ [c])
def rd_fo (c len wc : Nat) : Nat := if c = 32 then 0 else if c < 97 ∨ 122 < c then 1 else if 12 ≤ len then 2 else if len = 0 ∧ 40 ≤ wc then 3 else 0
def rd : List Nat → Nat → List (List Nat) → Nat → Nat × Int × List (List Nat)
  | [], _, ws, _ => (0, -1, ws)
  | c :: t, k, ws, len => if rd_fo c len ws.length ≠ 0 then (rd_fo c len ws.length, (k : Int), ws) else if c = 32 then rd t (k + 1) ws 0 else rd t (k + 1) (rd_add ws len c) (len + 1)
def rd_inv (ws : List (List Nat)) (len : Nat) : Prop := ws.length ≤ 40 ∧ len ≤ 12 ∧ (∀ l ∈ ws, sp_ok l ∧ 0 < l.length) ∧ (0 < len → 0 < ws.length ∧ (ws.getD (ws.length - 1) []).length = len)
theorem rd_inv_0 : rd_inv [] 0 := ⟨by simp, by omega, by simp, fun h => absurd h (by omega)⟩
theorem rd_inv_b {ws : List (List Nat)} {len : Nat} (h : rd_inv ws len) : rd_inv ws 0 := ⟨h.1, by omega, h.2.2.1, fun q => absurd q (by omega)⟩
theorem rd_inv_add {ws : List (List Nat)} {len c : Nat} (h : rd_inv ws len) (hf : rd_fo c len ws.length = 0) (hc : c ≠ 32) : rd_inv (rd_add ws len c) (len + 1) ∧ (97 ≤ c ∧ c ≤ 122) ∧ len < 12 ∧ (len = 0 → ws.length < 40) := by
  unfold rd_fo at hf
  rw [if_neg hc] at hf
  by_cases c1 : c < 97 ∨ 122 < c
  · rw [if_pos c1] at hf; omega
  · rw [if_neg c1] at hf
    by_cases c2 : 12 ≤ len
    · rw [if_pos c2] at hf; omega
    · rw [if_neg c2] at hf
      have c3 : ¬ (len = 0 ∧ 40 ≤ ws.length) := fun q => by rw [if_pos q] at hf; omega
      refine ⟨?_, by omega, by omega, fun q => by omega⟩
      obtain ⟨h1, h2, h3, h4⟩ := h
      unfold rd_add
      by_cases z : len = 0
      · rw [if_pos z]
        refine ⟨by simp; omega, by omega, fun l hl => ?_, fun _ => ⟨by simp, by simp; omega⟩⟩
        rcases List.mem_append.mp hl with q | q
        · exact h3 l q
        · rw [List.mem_singleton.mp q]
          exact ⟨⟨fun x hx => by rw [List.mem_singleton.mp hx]; omega, by simp⟩, by simp⟩
      · rw [if_neg z]
        obtain ⟨g1, g2⟩ := h4 (by omega)
        have hm : ws.getD (ws.length - 1) [] ∈ ws := by
          rw [show ws.getD (ws.length - 1) [] = ws[ws.length - 1]'(by omega) by simp [show ws.length - 1 < ws.length by omega]]
          exact List.getElem_mem _
        have hl0 := h3 _ hm
        refine ⟨by simp; omega, by omega, fun l hl => ?_, fun _ => ⟨by simp; omega, ?_⟩⟩
        · rcases List.mem_or_eq_of_mem_set hl with q | q
          · exact h3 l q
          · rw [q]
            refine ⟨⟨fun x hx => ?_, by rw [List.length_append, List.length_singleton]; omega⟩, by simp⟩
            rcases List.mem_append.mp hx with y | y
            · exact hl0.1.1 x y
            · rw [List.mem_singleton.mp y]
              omega
        · rw [List.length_set, List.getD_eq_getElem?_getD, List.getElem?_set_self (by omega)]
          simp
          rw [← List.getD_eq_getElem?_getD]
          exact g2
theorem rd_ok : ∀ (cs : List Nat) (k : Nat) (ws : List (List Nat)) (len : Nat), rd_inv ws len → rd_inv (rd cs k ws len).2.2 0 ∧ (rd cs k ws len).1 ≤ 3 ∧ (-1 ≤ (rd cs k ws len).2.1 ∧ (rd cs k ws len).2.1 ≤ k + cs.length) := by
  intro cs
  induction cs with
  | nil => intro k ws len h; exact ⟨rd_inv_b h, by simp [rd], by simp [rd]⟩
  | cons c t ih =>
    intro k ws len h
    simp only [rd]
    by_cases c0 : rd_fo c len ws.length ≠ 0
    · rw [if_pos c0]
      refine ⟨rd_inv_b h, ?_, by simp only [List.length_cons]; omega⟩
      simp only
      unfold rd_fo
      split
      · omega
      · split
        · omega
        · split
          · omega
          · split <;> omega
    · rw [if_neg c0]
      by_cases c1 : c = 32
      · rw [if_pos c1]
        have := ih (k + 1) ws 0 (rd_inv_b h)
        simp only [List.length_cons]
        refine ⟨this.1, this.2.1, by have := this.2.2; omega⟩
      · rw [if_neg c1]
        have := ih (k + 1) _ _ (rd_inv_add h (by omega) c1).1
        simp only [List.length_cons]
        refine ⟨this.1, this.2.1, by have := this.2.2; omega⟩
abbrev ty_obj (t : Nat) (cnt wc fa : Int) : va_E := .inr (7, [.ref (t + 1), .ref (t + 2), .int (eb_I cnt), .int (eb_I wc), .int (eb_I fa)])
def ty_fr (h h' : eb_H) (t : Nat) : Prop := ∀ k, (k < t ∨ t + 2 < k) → h' k = h k
theorem ty_fr.rf {h : eb_H} {t : Nat} : ty_fr h h t := fun _ _ => rfl
theorem ty_fr.up {h h1 : eb_H} {t a : Nat} {e : va_E} (H : ty_fr h h1 t) (ha : t ≤ a ∧ a ≤ t + 2) : ty_fr h (eb_up h1 a e) t := fun k hk => by
  rw [eb_up, if_neg (by omega)]
  exact H k hk
theorem ty_fr.tr {h h1 h2 : eb_H} {t : Nat} (H : ty_fr h h1 t) (H2 : ty_fr h1 h2 t) : ty_fr h h2 t := fun k hk => (H2 k hk).trans (H k hk)
def ty_at (h : eb_H) (t : Nat) (cs : List Nat) (fa : Int) : Prop := ∃ (wc : Int) (lf g : Nat → Int), h t = ty_obj t cs.length wc fa ∧ h (t + 1) = eb_ia 240 lf ∧ h (t + 2) = eb_la 40 g ∧ ∀ k (hk : k < cs.length), lf k = (cs[k] : Int)
section TYS
variable {n : Nat} {h : eb_H} {t : Nat}
theorem c_X8_add {cs : List Nat} {fa : Int} {c : Nat} (HT : ty_at h t cs fa) (hl : cs.length ≤ 240) (hc : c ≤ 255) : eb_T mX8_add [.ref t, .int (eb_I (c : Int))] n h (eb_G (some (.int (eb_I (if 240 ≤ cs.length then -1000000004 else (cs.length : Int) + 1)))) n (fun h' => ty_at h' t (if 240 ≤ cs.length then cs else cs ++ [c]) fa ∧ ty_fr h h' t)) := by
  refine eb_T.of (by decide +kernel) (Nat.le_of_ble_eq_true rfl) ?_
  show eb_V _ _ 0 [.ref t, .int (eb_I (c : Int))] [] (n, 0, 0) h _
  have HT' := HT
  obtain ⟨wc, lf, g, H_this, H_this_letters, H_this_words, hlf⟩ := HT
  by_cases z : 240 ≤ cs.length
  · rw [if_pos z, if_pos z]
    refine V_aload_n eX8_add_0 rfl rfl ?_
    refine V_getf eX8_add_1 H_this rfl ?_
    refine V_sipush eX8_add_4 (by decide) ?_
    refine V_icmp_lt (tgt := 13) eX8_add_7 rfl (by omega) (fun c_7 => ?_) (fun c_7 => ?_)
    · exact absurd c_7 (by omega)
    · refine V_ldc (a := -1000000004) eX8_add_10 wd_381 (by decide) ?_
      exact V_iret eX8_add_12 ⟨Nat.zero_le _, Nat.zero_le _⟩ rfl (rfl) (⟨rfl, rfl, HT', ty_fr.rf⟩)
  · rw [if_neg z, if_neg z]
    refine V_aload_n eX8_add_0 rfl rfl ?_
    refine V_getf eX8_add_1 H_this rfl ?_
    refine V_sipush eX8_add_4 (by decide) ?_
    refine V_icmp_lt (tgt := 13) eX8_add_7 rfl (by omega) (fun c_7 => ?_) (fun c_7 => ?_)
    · refine V_aload_n eX8_add_13 rfl rfl ?_
      refine V_getf eX8_add_14 H_this rfl ?_
      refine V_aload_n eX8_add_17 rfl rfl ?_
      refine V_getf eX8_add_18 H_this rfl ?_
      refine V_iload_n eX8_add_21 rfl rfl ?_
      refine V_iast eX8_add_22 H_this_letters (by omega) ?_
      refine V_aload_n eX8_add_23 rfl rfl ?_
      refine V_dup eX8_add_24 rfl ?_
      refine V_getf eX8_add_25 (eb_up_n (by omega) H_this) rfl ?_
      refine V_iconst eX8_add_28 ?_
      refine V_iadd eX8_add_29 ?_
      refine V_eqI (b := ((cs ++ [c]).length : Int)) (by simp) ?_
      refine V_putf eX8_add_30 (eb_up_n (by omega) H_this) eb_fitI (eb_sS (eb_sS eb_s0)) (Nat.le_of_ble_eq_true rfl) ?_
      refine V_aload_n eX8_add_33 rfl rfl ?_
      refine V_getf eX8_add_34 eb_up_s rfl ?_
      refine V_eqI (b := (cs.length : Int) + 1) (by simp) ?_
      exact V_iret eX8_add_37 ⟨Nat.zero_le _, Nat.zero_le _⟩ rfl (rfl) (⟨rfl, rfl, ⟨wc, _, g, eb_up_s, eb_up_n (by omega) eb_up_s, eb_up_n (by omega) (eb_up_n (by omega) H_this_words), fun k hk => by
          rw [Int.toNat_natCast]
          unfold eb_set
          by_cases y : k = cs.length
          · subst y
            rw [if_pos rfl]
            simp
          · have hk2 : k < cs.length := by simp at hk; omega
            rw [if_neg y, hlf k hk2, List.getElem_append_left hk2]⟩, (ty_fr.rf.up (by omega)).up (by omega)⟩)
    · exact absurd (by omega) c_7
theorem c_X8_faultOf {cnt fa : Int} {c len wc : Nat} (H_this : h t = ty_obj t cnt wc fa) (hc : c ≤ 255) (hl : len ≤ 12) (hw : wc ≤ 40) : eb_T mX8_faultOf [.ref t, .int (eb_I (c : Int)), .int (eb_I (len : Int))] n h (eb_X (some (.int (eb_I (rd_fo c len wc : Nat)))) n h) := by
  refine eb_T.of (by decide +kernel) (Nat.le_of_ble_eq_true rfl) ?_
  show eb_V _ _ 0 [.ref t, .int (eb_I (c : Int)), .int (eb_I (len : Int))] [] (n, 0, 0) h _
  unfold rd_fo
  by_cases c0 : c = 32
  · rw [if_pos c0]
    refine V_iload_n eX8_faultOf_0 rfl rfl ?_
    refine V_bipush eX8_faultOf_1 (by decide) ?_
    refine V_icmp_ne (tgt := 8) eX8_faultOf_3 rfl (by omega) (fun c_3 => ?_) (fun c_3 => ?_)
    · exact absurd c_3 (by omega)
    · refine V_iconst eX8_faultOf_6 ?_
      exact V_iret eX8_faultOf_7 ⟨Nat.zero_le _, Nat.zero_le _⟩ rfl (rfl) (⟨rfl, rfl, rfl⟩)
  · rw [if_neg c0]
    by_cases c1 : c < 97 ∨ 122 < c
    · rw [if_pos c1]
      refine V_iload_n eX8_faultOf_0 rfl rfl ?_
      refine V_bipush eX8_faultOf_1 (by decide) ?_
      refine V_icmp_ne (tgt := 8) eX8_faultOf_3 rfl (by omega) (fun c_3 => ?_) (fun c_3 => ?_)
      · refine V_iload_n eX8_faultOf_8 rfl rfl ?_
        refine V_bipush eX8_faultOf_9 (by decide) ?_
        refine V_icmp_lt (tgt := 20) eX8_faultOf_11 rfl (by omega) (fun c_11 => ?_) (fun c_11 => ?_)
        · refine V_iconst eX8_faultOf_20 ?_
          exact V_iret eX8_faultOf_21 ⟨Nat.zero_le _, Nat.zero_le _⟩ rfl (rfl) (⟨rfl, rfl, rfl⟩)
        · refine V_iload_n eX8_faultOf_14 rfl rfl ?_
          refine V_bipush eX8_faultOf_15 (by decide) ?_
          refine V_icmp_le (tgt := 22) eX8_faultOf_17 rfl (by omega) (fun c_17 => ?_) (fun c_17 => ?_)
          · exact absurd c_17 (by omega)
          · refine V_iconst eX8_faultOf_20 ?_
            exact V_iret eX8_faultOf_21 ⟨Nat.zero_le _, Nat.zero_le _⟩ rfl (rfl) (⟨rfl, rfl, rfl⟩)
      · exact absurd c_3 (by omega)
    · rw [if_neg c1]
      by_cases c2 : 12 ≤ len
      · rw [if_pos c2]
        refine V_iload_n eX8_faultOf_0 rfl rfl ?_
        refine V_bipush eX8_faultOf_1 (by decide) ?_
        refine V_icmp_ne (tgt := 8) eX8_faultOf_3 rfl (by omega) (fun c_3 => ?_) (fun c_3 => ?_)
        · refine V_iload_n eX8_faultOf_8 rfl rfl ?_
          refine V_bipush eX8_faultOf_9 (by decide) ?_
          refine V_icmp_lt (tgt := 20) eX8_faultOf_11 rfl (by omega) (fun c_11 => ?_) (fun c_11 => ?_)
          · exact absurd c_11 (by omega)
          · refine V_iload_n eX8_faultOf_14 rfl rfl ?_
            refine V_bipush eX8_faultOf_15 (by decide) ?_
            refine V_icmp_le (tgt := 22) eX8_faultOf_17 rfl (by omega) (fun c_17 => ?_) (fun c_17 => ?_)
            · refine V_iload_n eX8_faultOf_22 rfl rfl ?_
              refine V_bipush eX8_faultOf_23 (by decide) ?_
              refine V_icmp_lt (tgt := 30) eX8_faultOf_25 rfl (by omega) (fun c_25 => ?_) (fun c_25 => ?_)
              · exact absurd c_25 (by omega)
              · refine V_iconst eX8_faultOf_28 ?_
                exact V_iret eX8_faultOf_29 ⟨Nat.zero_le _, Nat.zero_le _⟩ rfl (rfl) (⟨rfl, rfl, rfl⟩)
            · exact absurd (by omega) c_17
        · exact absurd c_3 (by omega)
      · rw [if_neg c2]
        by_cases c3 : len = 0 ∧ 40 ≤ wc
        · rw [if_pos c3]
          refine V_iload_n eX8_faultOf_0 rfl rfl ?_
          refine V_bipush eX8_faultOf_1 (by decide) ?_
          refine V_icmp_ne (tgt := 8) eX8_faultOf_3 rfl (by omega) (fun c_3 => ?_) (fun c_3 => ?_)
          · refine V_iload_n eX8_faultOf_8 rfl rfl ?_
            refine V_bipush eX8_faultOf_9 (by decide) ?_
            refine V_icmp_lt (tgt := 20) eX8_faultOf_11 rfl (by omega) (fun c_11 => ?_) (fun c_11 => ?_)
            · exact absurd c_11 (by omega)
            · refine V_iload_n eX8_faultOf_14 rfl rfl ?_
              refine V_bipush eX8_faultOf_15 (by decide) ?_
              refine V_icmp_le (tgt := 22) eX8_faultOf_17 rfl (by omega) (fun c_17 => ?_) (fun c_17 => ?_)
              · refine V_iload_n eX8_faultOf_22 rfl rfl ?_
                refine V_bipush eX8_faultOf_23 (by decide) ?_
                refine V_icmp_lt (tgt := 30) eX8_faultOf_25 rfl (by omega) (fun c_25 => ?_) (fun c_25 => ?_)
                · refine V_iload_n eX8_faultOf_30 rfl rfl ?_
                  refine V_if_ne (tgt := 47) eX8_faultOf_31 rfl (by omega) (fun c_31 => ?_) (fun c_31 => ?_)
                  · exact absurd c_31 (by omega)
                  · refine V_aload_n eX8_faultOf_34 rfl rfl ?_
                    refine V_getf eX8_faultOf_35 H_this rfl ?_
                    refine V_bipush eX8_faultOf_38 (by decide) ?_
                    refine V_icmp_lt (tgt := 47) eX8_faultOf_40 rfl (by omega) (fun c_40 => ?_) (fun c_40 => ?_)
                    · exact absurd c_40 (by omega)
                    · refine V_iconst eX8_faultOf_43 ?_
                      refine V_goto (tgt := 48) eX8_faultOf_44 rfl ?_
                      exact V_iret eX8_faultOf_48 ⟨Nat.zero_le _, Nat.zero_le _⟩ rfl (rfl) (⟨rfl, rfl, rfl⟩)
                · exact absurd (by omega) c_25
              · exact absurd (by omega) c_17
          · exact absurd c_3 (by omega)
        · rw [if_neg c3]
          refine V_iload_n eX8_faultOf_0 rfl rfl ?_
          refine V_bipush eX8_faultOf_1 (by decide) ?_
          refine V_icmp_ne (tgt := 8) eX8_faultOf_3 rfl (by omega) (fun c_3 => ?_) (fun c_3 => ?_)
          · refine V_iload_n eX8_faultOf_8 rfl rfl ?_
            refine V_bipush eX8_faultOf_9 (by decide) ?_
            refine V_icmp_lt (tgt := 20) eX8_faultOf_11 rfl (by omega) (fun c_11 => ?_) (fun c_11 => ?_)
            · exact absurd c_11 (by omega)
            · refine V_iload_n eX8_faultOf_14 rfl rfl ?_
              refine V_bipush eX8_faultOf_15 (by decide) ?_
              refine V_icmp_le (tgt := 22) eX8_faultOf_17 rfl (by omega) (fun c_17 => ?_) (fun c_17 => ?_)
              · refine V_iload_n eX8_faultOf_22 rfl rfl ?_
                refine V_bipush eX8_faultOf_23 (by decide) ?_
                refine V_icmp_lt (tgt := 30) eX8_faultOf_25 rfl (by omega) (fun c_25 => ?_) (fun c_25 => ?_)
                · refine V_iload_n eX8_faultOf_30 rfl rfl ?_
                  refine V_if_ne (tgt := 47) eX8_faultOf_31 rfl (by omega) (fun c_31 => ?_) (fun c_31 => ?_)
                  · refine V_iconst eX8_faultOf_47 ?_
                    exact V_iret eX8_faultOf_48 ⟨Nat.zero_le _, Nat.zero_le _⟩ rfl (rfl) (⟨rfl, rfl, rfl⟩)
                  · refine V_aload_n eX8_faultOf_34 rfl rfl ?_
                    refine V_getf eX8_faultOf_35 H_this rfl ?_
                    refine V_bipush eX8_faultOf_38 (by decide) ?_
                    refine V_icmp_lt (tgt := 47) eX8_faultOf_40 rfl (by omega) (fun c_40 => ?_) (fun c_40 => ?_)
                    · refine V_iconst eX8_faultOf_47 ?_
                      exact V_iret eX8_faultOf_48 ⟨Nat.zero_le _, Nat.zero_le _⟩ rfl (rfl) (⟨rfl, rfl, rfl⟩)
                    · exact absurd c_40 (by omega)
                · exact absurd (by omega) c_25
              · exact absurd (by omega) c_17
          · exact absurd c_3 (by omega)
theorem c_X8_addToWord {cnt fa : Int} {ws : List (List Nat)} {len c : Nat} {lf g : Nat → Int} (H0 : h t = ty_obj t cnt ws.length fa) (H1 : h (t + 1) = eb_ia 240 lf) (H2 : h (t + 2) = eb_la 40 g) (hg : ∀ w (hw : w < ws.length), g w = (sp_enc ws[w] : Int)) (hi : rd_inv ws len) (hf : rd_fo c len ws.length = 0) (hc : c ≠ 32) :
    eb_T mX8_addToWord [.ref t, .int (eb_I (c : Int)), .int (eb_I (len : Int))] n h (eb_G none n (fun h' => (∃ g', h' t = ty_obj t cnt (rd_add ws len c).length fa ∧ h' (t + 1) = eb_ia 240 lf ∧ h' (t + 2) = eb_la 40 g' ∧ ∀ w (hw : w < (rd_add ws len c).length), g' w = (sp_enc (rd_add ws len c)[w] : Int)) ∧ ty_fr h h' t)) := by
  refine eb_T.of (by decide +kernel) (Nat.le_of_ble_eq_true rfl) ?_
  show eb_V _ _ 0 [.ref t, .int (eb_I (c : Int)), .int (eb_I (len : Int)), eb_no] [] (n, 0, 0) h _
  obtain ⟨-, hcr, hlr, hw40⟩ := rd_inv_add hi hf hc
  have H_this := H0
  have H_this_letters := H1
  have H_this_words := H2
  by_cases z : len = 0
  · subst z
    have e0 : rd_add ws 0 c = ws ++ [[c]] := rfl
    rw [e0]
    have hws := hw40 rfl
    have e1 : ((ws.length : Int) + 1 - 1).toNat = ws.length := by omega
    have e2 : eb_set g ((ws.length : Nat) : Int).toNat 0 ws.length = (sp_enc [] : Int) := by rw [Int.toNat_natCast]; unfold eb_set; rw [if_pos rfl]; rfl
    have T : ∀ h1, eb_T mX5_withLetter [.long (eb_J (sp_enc ([] : List Nat) : Int)), .int (eb_I (([] : List Nat).length : Int)), .int (eb_I (c : Int))] n h1 (eb_X (some (.long (eb_J (sp_enc ([] ++ [c]) : Int)))) n h1) := fun h1 => c_X5_withLetter ⟨by simp, by simp⟩ (by simp) hcr
    refine V_iload_n eX8_addToWord_0 rfl rfl ?_
    refine V_if_ne (tgt := 24) eX8_addToWord_1 rfl (by omega) (fun c_1 => ?_) (fun c_1 => ?_)
    · exact absurd rfl c_1
    · refine V_aload_n eX8_addToWord_4 rfl rfl ?_
      refine V_getf eX8_addToWord_5 H_this rfl ?_
      refine V_aload_n eX8_addToWord_8 rfl rfl ?_
      refine V_getf eX8_addToWord_9 H_this rfl ?_
      refine V_lconst (b := 0) eX8_addToWord_12 (by decide) ?_
      refine V_last eX8_addToWord_13 H_this_words (by omega) ?_
      refine V_aload_n eX8_addToWord_14 rfl rfl ?_
      refine V_dup eX8_addToWord_15 rfl ?_
      refine V_getf eX8_addToWord_16 (eb_up_n (by omega) H_this) rfl ?_
      refine V_iconst eX8_addToWord_19 ?_
      refine V_iadd eX8_addToWord_20 ?_
      rw [show ((ws.length : Nat) : Int) + 1 = ((ws ++ [[c]]).length : Int) by simp]
      refine V_putf eX8_addToWord_21 (eb_up_n (by omega) H_this) eb_fitI (eb_sS (eb_sS (eb_sS eb_s0))) (Nat.le_of_ble_eq_true rfl) ?_
      refine V_aload_n eX8_addToWord_24 rfl rfl ?_
      refine V_getf eX8_addToWord_25 eb_up_s rfl ?_
      refine V_iconst eX8_addToWord_28 ?_
      refine V_isub eX8_addToWord_29 ?_
      refine V_eqI (b := (ws.length : Int)) (by simp) ?_
      refine V_istore_n eX8_addToWord_30 rfl (Nat.le_of_ble_eq_true rfl) rfl (eb_sS (eb_sS (eb_sS eb_s0))) ?_
      refine V_aload_n eX8_addToWord_31 rfl rfl ?_
      refine V_getf eX8_addToWord_32 eb_up_s rfl ?_
      refine V_iload_n eX8_addToWord_35 rfl rfl ?_
      refine V_aload_n eX8_addToWord_36 rfl rfl ?_
      refine V_getf eX8_addToWord_37 eb_up_s rfl ?_
      refine V_iload_n eX8_addToWord_40 rfl rfl ?_
      refine V_lald eX8_addToWord_41 (eb_up_n (by omega) eb_up_s) (by omega) ?_
      rw [Int.toNat_natCast, show eb_set g ws.length 0 ws.length = (sp_enc [] : Int) by rw [Int.toNat_natCast] at e2; exact e2]
      refine V_iload_n eX8_addToWord_42 rfl rfl ?_
      refine V_iload_n eX8_addToWord_43 rfl rfl ?_
      refine V_csi eX8_addToWord_44 (T _) rfl rfl (Nat.le_of_ble_eq_true rfl) ⟨rfl, rfl⟩ ⟨Nat.zero_le _, Nat.zero_le _⟩ ?_
      refine V_last eX8_addToWord_47 (eb_up_n (by omega) eb_up_s) (by omega) ?_
      exact V_vret eX8_addToWord_48 ⟨Nat.zero_le _, Nat.zero_le _⟩ rfl (⟨rfl, rfl, ⟨_, eb_up_n (by omega) eb_up_s, eb_up_n (by omega) (eb_up_n (by omega) (eb_up_n (by omega) H1)), eb_up_s, fun w hw => by
          simp only [eb_set, Int.toNat_natCast]
          by_cases y : w = ws.length
          · subst y
            rw [if_pos rfl]
            simp
          · have hw2 : w < ws.length := by simp at hw; omega
            rw [if_neg y, if_neg y, hg w hw2, List.getElem_append_left hw2]⟩, ((ty_fr.rf.up (by omega)).up (by omega)).up (by omega)⟩)
  · obtain ⟨g1, g2⟩ := hi.2.2.2 (by omega)
    have hwl : ws.length - 1 < ws.length := by omega
    have hm : ws.getD (ws.length - 1) [] = ws[ws.length - 1] := by simp [hwl]
    have hl0 := (hi.2.2.1 _ (List.getElem_mem hwl))
    have e0 : rd_add ws len c = ws.set (ws.length - 1) (ws[ws.length - 1] ++ [c]) := by unfold rd_add; rw [if_neg z, hm]
    rw [hm] at g2
    have hN40 := hi.1
    have e1 : g (((ws.length - 1 : Nat) : Int)).toNat = (sp_enc ws[ws.length - 1] : Int) := by rw [Int.toNat_natCast]; exact hg _ hwl
    have T := c_X5_withLetter (n := n) (h := h) (l := ws[ws.length - 1]) (c := c) hl0.1 (by omega) hcr
    rw [g2] at T
    rw [e0]
    refine V_iload_n eX8_addToWord_0 rfl rfl ?_
    refine V_if_ne (tgt := 24) eX8_addToWord_1 rfl (by omega) (fun c_1 => ?_) (fun c_1 => ?_)
    · refine V_aload_n eX8_addToWord_24 rfl rfl ?_
      refine V_getf eX8_addToWord_25 H_this rfl ?_
      refine V_iconst eX8_addToWord_28 ?_
      refine V_isub eX8_addToWord_29 ?_
      refine V_eqI (b := ((ws.length - 1 : Nat) : Int)) (by omega) ?_
      refine V_istore_n eX8_addToWord_30 rfl (Nat.le_of_ble_eq_true rfl) rfl (eb_sS (eb_sS (eb_sS eb_s0))) ?_
      refine V_aload_n eX8_addToWord_31 rfl rfl ?_
      refine V_getf eX8_addToWord_32 H_this rfl ?_
      refine V_iload_n eX8_addToWord_35 rfl rfl ?_
      refine V_aload_n eX8_addToWord_36 rfl rfl ?_
      refine V_getf eX8_addToWord_37 H_this rfl ?_
      refine V_iload_n eX8_addToWord_40 rfl rfl ?_
      refine V_lald eX8_addToWord_41 H_this_words (by omega) ?_
      rw [e1]
      refine V_iload_n eX8_addToWord_42 rfl rfl ?_
      refine V_iload_n eX8_addToWord_43 rfl rfl ?_
      refine V_csi eX8_addToWord_44 (T) rfl rfl (Nat.le_of_ble_eq_true rfl) ⟨rfl, rfl⟩ ⟨Nat.zero_le _, Nat.zero_le _⟩ ?_
      refine V_last eX8_addToWord_47 H_this_words (by omega) ?_
      exact V_vret eX8_addToWord_48 ⟨Nat.zero_le _, Nat.zero_le _⟩ rfl (⟨rfl, rfl, ⟨_, by rw [List.length_set]; exact eb_up_n (by omega) H0, eb_up_n (by omega) H1, eb_up_s, fun w hw => by
          rw [Int.toNat_natCast, List.getElem_set]
          unfold eb_set
          by_cases y : w = ws.length - 1
          · rw [if_pos y, if_pos y.symm]
          · have hw2 : w < ws.length := by rw [List.length_set] at hw; exact hw
            rw [if_neg y, if_neg (fun q => y q.symm), hg w hw2]⟩, ty_fr.rf.up (by omega)⟩)
    · exact absurd c_1 (by omega)
theorem c_X8_read {cs : List Nat} {fa : Int} (HT : ty_at h t cs fa) (hl : cs.length ≤ 240) (hcs : ∀ c ∈ cs, c ≤ 255) : eb_T mX8_read [.ref t] n h (eb_G (some (.int (eb_I ((rd cs 0 [] 0).1 : Nat)))) n (fun h' => (∃ (wc : Int) (lf g : Nat → Int), h' t = ty_obj t 0 wc (rd cs 0 [] 0).2.1 ∧ h' (t + 1) = eb_ia 240 lf ∧ h' (t + 2) = eb_la 40 g ∧ ((rd cs 0 [] 0).1 = 0 → wc = (rd cs 0 [] 0).2.2.length ∧ ∀ w (hw : w < (rd cs 0 [] 0).2.2.length), g w = (sp_enc (rd cs 0 [] 0).2.2[w] : Int))) ∧ ty_fr h h' t)) := by
  refine eb_T.of (by decide +kernel) (Nat.le_of_ble_eq_true rfl) ?_
  show eb_V _ _ 0 [.ref t, eb_no, eb_no, eb_no, eb_no] [] (n, 0, 0) h _
  generalize hR : rd cs 0 [] 0 = R
  have hRr := rd_ok cs 0 [] 0 rd_inv_0
  rw [hR] at hRr
  generalize hG : (fun h' => (∃ (wc : Int) (lf g : Nat → Int), h' t = ty_obj t 0 wc R.2.1 ∧ h' (t + 1) = eb_ia 240 lf ∧ h' (t + 2) = eb_la 40 g ∧ (R.1 = 0 → wc = R.2.2.length ∧ ∀ w (hw : w < R.2.2.length), g w = (sp_enc R.2.2[w] : Int))) ∧ ty_fr h h' t) = G
  obtain ⟨wc0, lf, g0, H_this, H_this_letters, H_this_words, hlf⟩ := HT
  have fin : ∀ (h1 : eb_H) (wc : Int) (g : Nat → Int) (x1 x3 : Int32) (x4 : Value), h1 t = ty_obj t cs.length wc R.2.1 → h1 (t + 1) = eb_ia 240 lf → h1 (t + 2) = eb_la 40 g → (R.1 = 0 → wc = R.2.2.length ∧ ∀ w (hw : w < R.2.2.length), g w = (sp_enc R.2.2[w] : Int)) → ty_fr h h1 t → eb_V mX8_read (fun _ _ _ => True) 84 [.ref t, .int x1, .int (eb_I (R.1 : Nat)), .int x3, x4] [] (n, 0, 0) h1 (eb_R mX8_read (eb_G (some (.int (eb_I (R.1 : Nat)))) n G)) := by
    intro h1 wc g x1 x3 x4 H_this H_l H_w hh hfr1
    refine V_aload_n eX8_read_84 rfl rfl ?_
    refine V_iconst eX8_read_85 ?_
    refine V_putf eX8_read_86 H_this eb_fitI (eb_sS (eb_sS eb_s0)) (Nat.le_of_ble_eq_true rfl) ?_
    refine V_iload_n eX8_read_89 rfl rfl ?_
    exact V_iret eX8_read_90 ⟨Nat.zero_le _, Nat.zero_le _⟩ rfl (rfl) (⟨rfl, rfl, by rw [← hG]; exact ⟨⟨wc, lf, g, eb_up_s, eb_up_n (by omega) H_l, eb_up_n (by omega) H_w, hh⟩, hfr1.up (by omega)⟩⟩)
  have loop : ∀ (d k : Nat) (h1 : eb_H) (ws : List (List Nat)) (len : Nat) (g : Nat → Int) (x4 : Value), k + d = cs.length → rd_inv ws len → rd (cs.drop k) k ws len = R → h1 t = ty_obj t cs.length ws.length (-1) → h1 (t + 1) = eb_ia 240 lf → h1 (t + 2) = eb_la 40 g → (∀ w (hw : w < ws.length), g w = (sp_enc ws[w] : Int)) → ty_fr h h1 t → eb_V mX8_read (fun _ _ _ => True) 16 [.ref t, .int (eb_I (len : Int)), .int (eb_I 0), .int (eb_I (k : Int)), x4] [] (n, 0, 0) h1 (eb_R mX8_read (eb_G (some (.int (eb_I (R.1 : Nat)))) n G)) := by
    intro d
    induction d with
    | zero =>
      intro k h1 ws len g x4 hk hinv hrd H_this H_this_letters H_this_words hg hfr1
      have : k = cs.length := by omega
      subst this
      rw [List.drop_length] at hrd
      have e1 : R.1 = 0 := by rw [← hrd]; rfl
      have e2 : R.2.1 = -1 := by rw [← hrd]; rfl
      have e3 : R.2.2 = ws := by rw [← hrd]; rfl
      have F := fin h1 ws.length g (eb_I (len : Int)) (eb_I (cs.length : Int)) x4 (by rw [e2]; exact H_this) H_this_letters H_this_words (fun _ => by rw [e3]; exact ⟨rfl, hg⟩) hfr1
      rw [e1] at F ⊢
      refine V_iload_n eX8_read_16 rfl rfl ?_
      refine V_aload_n eX8_read_17 rfl rfl ?_
      refine V_getf eX8_read_18 H_this rfl ?_
      refine V_icmp_ge (tgt := 84) eX8_read_21 rfl (by omega) (fun c_21 => ?_) (fun c_21 => ?_)
      · exact F
      · exact absurd (by omega) c_21
    | succ d ih =>
      intro k h1 ws len g x4 hk hinv hrd H_this H_this_letters H_this_words hg hfr1
      have hkl : k < cs.length := by omega
      have hcr := hcs cs[k] (List.getElem_mem hkl)
      have e1 : lf ((k : Nat) : Int).toNat = (cs[k] : Int) := by rw [Int.toNat_natCast]; exact hlf k hkl
      rw [List.drop_eq_getElem_cons hkl] at hrd
      simp only [rd] at hrd
      have Tf := c_X8_faultOf (n := n) (c := cs[k]) (len := len) (wc := ws.length) H_this hcr hinv.2.1 hinv.1
      by_cases c0 : rd_fo cs[k] len ws.length ≠ 0
      · rw [if_pos c0] at hrd
        have r1 : R.1 = rd_fo cs[k] len ws.length := by rw [← hrd]
        have r2 : R.2.1 = (k : Int) := by rw [← hrd]
        rw [← r1] at c0 Tf
        have hR1 := hRr.2.1
        have F := fin (eb_up h1 t (ty_obj t cs.length ws.length (k : Int))) ws.length g (eb_I (len : Int)) (eb_I ((k : Int) + 1)) (.int (eb_I (cs[k] : Int))) (by rw [r2]; exact eb_up_s) (eb_up_n (by omega) H_this_letters) (eb_up_n (by omega) H_this_words) (fun q => absurd q c0) (hfr1.up (by omega))
        have J : eb_V mX8_read (fun _ _ _ => True) 16 [.ref t, .int (eb_I (len : Int)), .int (eb_I (R.1 : Nat)), .int (eb_I ((k : Int) + 1)), .int (eb_I (cs[k] : Int))] [] (n, 0, 0) (eb_up h1 t (ty_obj t cs.length ws.length (k : Int))) (eb_R mX8_read (eb_G (some (.int (eb_I (R.1 : Nat)))) n G)) := by
          have H_this : eb_up h1 t (ty_obj t cs.length ws.length (k : Int)) t = _ := eb_up_s
          refine V_iload_n eX8_read_16 rfl rfl ?_
          refine V_aload_n eX8_read_17 rfl rfl ?_
          refine V_getf eX8_read_18 H_this rfl ?_
          refine V_icmp_ge (tgt := 84) eX8_read_21 rfl (by omega) (fun c_21 => ?_) (fun c_21 => ?_)
          · exact F
          · refine V_iload_n eX8_read_24 rfl rfl ?_
            refine V_if_ne (tgt := 84) eX8_read_25 rfl (by omega) (fun c_25 => ?_) (fun c_25 => ?_)
            · exact F
            · exact absurd c_25 (by omega)
        refine V_iload_n eX8_read_16 rfl rfl ?_
        refine V_aload_n eX8_read_17 rfl rfl ?_
        refine V_getf eX8_read_18 H_this rfl ?_
        refine V_icmp_ge (tgt := 84) eX8_read_21 rfl (by omega) (fun c_21 => ?_) (fun c_21 => ?_)
        · exact absurd c_21 (by omega)
        · refine V_iload_n eX8_read_24 rfl rfl ?_
          refine V_if_ne (tgt := 84) eX8_read_25 rfl (by omega) (fun c_25 => ?_) (fun c_25 => ?_)
          · exact absurd rfl c_25
          · refine V_aload_n eX8_read_28 rfl rfl ?_
            refine V_getf eX8_read_29 H_this rfl ?_
            refine V_iload_n eX8_read_32 rfl rfl ?_
            refine V_iald eX8_read_33 H_this_letters (by omega) ?_
            rw [e1]
            refine V_istore eX8_read_34 (Nat.le_of_ble_eq_true rfl) rfl (eb_sS (eb_sS (eb_sS (eb_sS eb_s0)))) ?_
            refine V_aload_n eX8_read_36 rfl rfl ?_
            refine V_iload eX8_read_37 rfl ?_
            refine V_iload_n eX8_read_39 rfl rfl ?_
            refine V_cvi eX8_read_40 (Tf) H_this rfl rfl (Nat.le_of_ble_eq_true rfl) ⟨rfl, rfl⟩ ⟨Nat.zero_le _, Nat.zero_le _⟩ ?_
            refine V_istore_n eX8_read_43 rfl (Nat.le_of_ble_eq_true rfl) rfl (eb_sS (eb_sS eb_s0)) ?_
            refine V_iload_n eX8_read_44 rfl rfl ?_
            refine V_if_eq (tgt := 56) eX8_read_45 rfl (by omega) (fun c_45 => ?_) (fun c_45 => ?_)
            · exact absurd c_45 (by omega)
            · refine V_aload_n eX8_read_48 rfl rfl ?_
              refine V_iload_n eX8_read_49 rfl rfl ?_
              refine V_putf eX8_read_50 H_this eb_fitI (eb_sS (eb_sS (eb_sS (eb_sS eb_s0)))) (Nat.le_of_ble_eq_true rfl) ?_
              refine V_goto (tgt := 78) eX8_read_53 rfl ?_
              refine V_iinc eX8_read_78 rfl rfl (eb_sS (eb_sS (eb_sS eb_s0))) ?_
              refine V_goto (tgt := 16) eX8_read_81 rfl ?_
              exact J
      · rw [if_neg c0] at hrd
        have f0 : rd_fo cs[k] len ws.length = 0 := by omega
        rw [f0] at Tf
        by_cases c1 : cs[k] = 32
        · rw [if_pos c1] at hrd
          refine V_iload_n eX8_read_16 rfl rfl ?_
          refine V_aload_n eX8_read_17 rfl rfl ?_
          refine V_getf eX8_read_18 H_this rfl ?_
          refine V_icmp_ge (tgt := 84) eX8_read_21 rfl (by omega) (fun c_21 => ?_) (fun c_21 => ?_)
          · exact absurd c_21 (by omega)
          · refine V_iload_n eX8_read_24 rfl rfl ?_
            refine V_if_ne (tgt := 84) eX8_read_25 rfl (by omega) (fun c_25 => ?_) (fun c_25 => ?_)
            · exact absurd rfl c_25
            · refine V_aload_n eX8_read_28 rfl rfl ?_
              refine V_getf eX8_read_29 H_this rfl ?_
              refine V_iload_n eX8_read_32 rfl rfl ?_
              refine V_iald eX8_read_33 H_this_letters (by omega) ?_
              rw [e1]
              refine V_istore eX8_read_34 (Nat.le_of_ble_eq_true rfl) rfl (eb_sS (eb_sS (eb_sS (eb_sS eb_s0)))) ?_
              refine V_aload_n eX8_read_36 rfl rfl ?_
              refine V_iload eX8_read_37 rfl ?_
              refine V_iload_n eX8_read_39 rfl rfl ?_
              refine V_cvi eX8_read_40 (Tf) H_this rfl rfl (Nat.le_of_ble_eq_true rfl) ⟨rfl, rfl⟩ ⟨Nat.zero_le _, Nat.zero_le _⟩ ?_
              refine V_istore_n eX8_read_43 rfl (Nat.le_of_ble_eq_true rfl) rfl (eb_sS (eb_sS eb_s0)) ?_
              refine V_iload_n eX8_read_44 rfl rfl ?_
              refine V_if_eq (tgt := 56) eX8_read_45 rfl (by omega) (fun c_45 => ?_) (fun c_45 => ?_)
              · refine V_iload eX8_read_56 rfl ?_
                refine V_bipush eX8_read_58 (by decide) ?_
                refine V_icmp_ne (tgt := 68) eX8_read_60 rfl (by omega) (fun c_60 => ?_) (fun c_60 => ?_)
                · exact absurd c_60 (by omega)
                · refine V_iconst eX8_read_63 ?_
                  refine V_istore_n eX8_read_64 rfl (Nat.le_of_ble_eq_true rfl) rfl (eb_sS eb_s0) ?_
                  refine V_goto (tgt := 78) eX8_read_65 rfl ?_
                  refine V_iinc eX8_read_78 rfl rfl (eb_sS (eb_sS (eb_sS eb_s0))) ?_
                  refine V_goto (tgt := 16) eX8_read_81 rfl ?_
                  exact ih (k + 1) h1 ws 0 g _ (by omega) (rd_inv_b hinv) hrd H_this H_this_letters H_this_words hg hfr1
              · exact absurd rfl c_45
        · rw [if_neg c1] at hrd
          obtain ⟨i1, i2, i3, i4⟩ := rd_inv_add hinv f0 c1
          refine V_iload_n eX8_read_16 rfl rfl ?_
          refine V_aload_n eX8_read_17 rfl rfl ?_
          refine V_getf eX8_read_18 H_this rfl ?_
          refine V_icmp_ge (tgt := 84) eX8_read_21 rfl (by omega) (fun c_21 => ?_) (fun c_21 => ?_)
          · exact absurd c_21 (by omega)
          · refine V_iload_n eX8_read_24 rfl rfl ?_
            refine V_if_ne (tgt := 84) eX8_read_25 rfl (by omega) (fun c_25 => ?_) (fun c_25 => ?_)
            · exact absurd rfl c_25
            · refine V_aload_n eX8_read_28 rfl rfl ?_
              refine V_getf eX8_read_29 H_this rfl ?_
              refine V_iload_n eX8_read_32 rfl rfl ?_
              refine V_iald eX8_read_33 H_this_letters (by omega) ?_
              rw [e1]
              refine V_istore eX8_read_34 (Nat.le_of_ble_eq_true rfl) rfl (eb_sS (eb_sS (eb_sS (eb_sS eb_s0)))) ?_
              refine V_aload_n eX8_read_36 rfl rfl ?_
              refine V_iload eX8_read_37 rfl ?_
              refine V_iload_n eX8_read_39 rfl rfl ?_
              refine V_cvi eX8_read_40 (Tf) H_this rfl rfl (Nat.le_of_ble_eq_true rfl) ⟨rfl, rfl⟩ ⟨Nat.zero_le _, Nat.zero_le _⟩ ?_
              refine V_istore_n eX8_read_43 rfl (Nat.le_of_ble_eq_true rfl) rfl (eb_sS (eb_sS eb_s0)) ?_
              refine V_iload_n eX8_read_44 rfl rfl ?_
              refine V_if_eq (tgt := 56) eX8_read_45 rfl (by omega) (fun c_45 => ?_) (fun c_45 => ?_)
              · refine V_iload eX8_read_56 rfl ?_
                refine V_bipush eX8_read_58 (by decide) ?_
                refine V_icmp_ne (tgt := 68) eX8_read_60 rfl (by omega) (fun c_60 => ?_) (fun c_60 => ?_)
                · refine V_aload_n eX8_read_68 rfl rfl ?_
                  refine V_iload eX8_read_69 rfl ?_
                  refine V_iload_n eX8_read_71 rfl rfl ?_
                  refine V_cvg eX8_read_72 (c_X8_addToWord H_this H_this_letters H_this_words hg hinv f0 c1) H_this rfl rfl (Nat.le_of_ble_eq_true rfl) ⟨rfl, rfl⟩ ⟨Nat.zero_le _, Nat.zero_le _⟩ (fun h2 ⟨⟨g2, K0, K1, K2, hg2⟩, hfr2⟩ => ?_)
                  show eb_V _ _ 75 _ [] _ _ _
                  refine V_iinc eX8_read_75 rfl rfl (eb_sS eb_s0) ?_
                  refine V_iinc eX8_read_78 rfl rfl (eb_sS (eb_sS (eb_sS eb_s0))) ?_
                  refine V_goto (tgt := 16) eX8_read_81 rfl ?_
                  exact ih (k + 1) h2 _ (len + 1) g2 _ (by omega) i1 hrd K0 K1 K2 hg2 (hfr1.tr hfr2)
                · exact absurd c_60 (by omega)
              · exact absurd rfl c_45
  refine V_aload_n eX8_read_0 rfl rfl ?_
  refine V_iconst eX8_read_1 ?_
  refine V_putf eX8_read_2 H_this eb_fitI (eb_sS (eb_sS (eb_sS eb_s0))) (Nat.le_of_ble_eq_true rfl) ?_
  refine V_aload_n eX8_read_5 rfl rfl ?_
  refine V_iconst eX8_read_6 ?_
  refine V_putf eX8_read_7 eb_up_s eb_fitI (eb_sS (eb_sS (eb_sS (eb_sS eb_s0)))) (Nat.le_of_ble_eq_true rfl) ?_
  refine V_iconst eX8_read_10 ?_
  refine V_istore_n eX8_read_11 rfl (Nat.le_of_ble_eq_true rfl) rfl (eb_sS eb_s0) ?_
  refine V_iconst eX8_read_12 ?_
  refine V_istore_n eX8_read_13 rfl (Nat.le_of_ble_eq_true rfl) rfl (eb_sS (eb_sS eb_s0)) ?_
  refine V_iconst eX8_read_14 ?_
  refine V_istore_n eX8_read_15 rfl (Nat.le_of_ble_eq_true rfl) rfl (eb_sS (eb_sS (eb_sS eb_s0))) ?_
  exact loop cs.length 0 _ [] 0 g0 _ (by omega) rd_inv_0 (by rw [List.drop_zero]; exact hR) eb_up_s (eb_up_n (by omega) (eb_up_n (by omega) H_this_letters)) (eb_up_n (by omega) (eb_up_n (by omega) H_this_words)) (fun w hw => absurd hw (by simp)) ((ty_fr.rf.up (by omega)).up (by omega))
end TYS
