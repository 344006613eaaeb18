/-! Text -/
abbrev TX : Type := List (List Nat) × Int × Int × Int × Int
def tx (h : eb_H) (t : Nat) (T : TX) : Prop := tx_at h t T.1 T.2.1 T.2.2.1 T.2.2.2.1 T.2.2.2.2
def TX_ok (T : TX) : Prop := tx_ok T.1 T.2.1 T.2.2.1 T.2.2.2.1 T.2.2.2.2
def tx_any (h : eb_H) (t : Nat) : Prop := ∃ (N : Nat) (me law fee fr : Int) (g : Nat → Int), h t = tx_obj t N me law fee fr ∧ h (t + 1) = eb_la 40 g
theorem tx_at.any {h : eb_H} {t : Nat} {ws : List (List Nat)} {me law fee fr : Int} (H : tx_at h t ws me law fee fr) : tx_any h t := by
  obtain ⟨h1, f, h2, -⟩ := H
  exact ⟨_, _, _, _, _, f, h1, h2⟩
def tx_fr (h h' : eb_H) (t : Nat) : Prop := ∀ k, (k < t ∨ t + 1 < k) → h' k = h k
theorem tx_fr.rf {h : eb_H} {t : Nat} : tx_fr h h t := fun _ _ => rfl
theorem tx_fr.up {h h1 : eb_H} {t a : Nat} {e : va_E} (H : tx_fr h h1 t) (ha : t ≤ a ∧ a ≤ t + 1) : tx_fr h (eb_up h1 a e) t := fun k hk => by
  rw [eb_up, if_neg (by omega)]
  exact H k hk
theorem tx_fr.tr {h h1 h2 : eb_H} {t : Nat} (H : tx_fr h h1 t) (H2 : tx_fr h1 h2 t) : tx_fr h h2 t := fun k hk => (H2 k hk).trans (H k hk)
theorem tx_at.kept {h h' : eb_H} {t : Nat} {ws : List (List Nat)} {me law fee fr : Int} (H : tx_at h t ws me law fee fr) (h0 : h' t = h t) (h1 : h' (t + 1) = h (t + 1)) : tx_at h' t ws me law fee fr := by
  obtain ⟨a, f, b, c⟩ := H
  exact ⟨h0.trans a, f, h1.trans b, c⟩
theorem tx_any.kept {h h' : eb_H} {t : Nat} (H : tx_any h t) (h0 : h' t = h t) (h1 : h' (t + 1) = h (t + 1)) : tx_any h' t := by
  obtain ⟨N, me, law, fee, fr, g, a, b⟩ := H
  exact ⟨N, me, law, fee, fr, g, h0.trans a, h1.trans b⟩
theorem tx_ins {ws : List (List Nat)} {w : Nat} {l : List Nat} (hw : w ≤ ws.length) (k : Nat) (hk : k < (ws.take w ++ l :: ws.drop w).length) : (ws.take w ++ l :: ws.drop w)[k] = if k < w then ws.getD k [] else if k = w then l else ws.getD (k - 1) [] := by
  have hl : (ws.take w).length = w := by simp; omega
  have hk2 : k < ws.length + 1 := by simp at hk; omega
  apply Option.some.inj
  rw [← List.getElem?_eq_getElem hk]
  by_cases c : k < w
  · rw [List.getElem?_append_left (by omega), if_pos c, List.getElem?_take_of_lt c]
    simp [show k < ws.length by omega]
  · rw [if_neg c, List.getElem?_append_right (by omega), hl]
    by_cases c2 : k = w
    · subst c2
      simp
    · rw [if_neg c2, show k - w = (k - w - 1) + 1 by omega, List.getElem?_cons_succ, List.getElem?_drop, show w + (k - w - 1) = k - 1 by omega]
      simp [show k - 1 < ws.length by omega]
theorem tx_del {ws : List (List Nat)} {w : Nat} (hw : w < ws.length) (k : Nat) (hk : k < (ws.take w ++ ws.drop (w + 1)).length) : (ws.take w ++ ws.drop (w + 1))[k] = if k < w then ws.getD k [] else ws.getD (k + 1) [] := by
  have hl : (ws.take w).length = w := by simp; omega
  have hk2 : k + 1 < ws.length := by simp at hk; omega
  apply Option.some.inj
  rw [← List.getElem?_eq_getElem hk]
  by_cases c : k < w
  · rw [List.getElem?_append_left (by omega), if_pos c, List.getElem?_take_of_lt c]
    simp [show k < ws.length by omega]
  · rw [if_neg c, List.getElem?_append_right (by omega), hl, List.getElem?_drop, show w + 1 + (k - w) = k + 1 by omega]
    simp [hk2]
section TXS
variable {n : Nat} {h : eb_H} {t : Nat} {ws : List (List Nat)} {me law fee fr : Int}
theorem c_X7_hasWord {w : Int} (HT : tx_at h t ws me law fee fr) (hN : ws.length ≤ 40) (hw : -2147483648 ≤ w ∧ w ≤ 2147483647) : eb_T mX7_hasWord [.ref t, .int (eb_I w)] n h (eb_X (some (.int (eb_I (if 0 ≤ w ∧ w < ws.length then 1 else 0)))) n h) := by
  refine eb_T.of (by decide +kernel) (Nat.le_of_ble_eq_true rfl) ?_
  show eb_V _ _ 0 [.ref t, .int (eb_I w)] [] (n, 0, 0) h _
  obtain ⟨H_this, f, H_this_words, hf⟩ := HT
  by_cases c : 0 ≤ w ∧ w < ws.length
  · rw [if_pos c]
    refine V_iload_n eX7_hasWord_0 rfl rfl ?_
    refine V_if_lt (tgt := 16) eX7_hasWord_1 rfl (by omega) (fun c_1 => ?_) (fun c_1 => ?_)
    · exact absurd c_1 (by omega)
    · refine V_iload_n eX7_hasWord_4 rfl rfl ?_
      refine V_aload_n eX7_hasWord_5 rfl rfl ?_
      refine V_getf eX7_hasWord_6 H_this rfl ?_
      refine V_icmp_ge (tgt := 16) eX7_hasWord_9 rfl (by omega) (fun c_9 => ?_) (fun c_9 => ?_)
      · exact absurd c_9 (by omega)
      · refine V_iconst eX7_hasWord_12 ?_
        refine V_goto (tgt := 17) eX7_hasWord_13 rfl ?_
        exact V_iret eX7_hasWord_17 ⟨Nat.zero_le _, Nat.zero_le _⟩ rfl (rfl) (⟨rfl, rfl, rfl⟩)
  · rw [if_neg c]
    refine V_iload_n eX7_hasWord_0 rfl rfl ?_
    refine V_if_lt (tgt := 16) eX7_hasWord_1 rfl (by omega) (fun c_1 => ?_) (fun c_1 => ?_)
    · refine V_iconst eX7_hasWord_16 ?_
      exact V_iret eX7_hasWord_17 ⟨Nat.zero_le _, Nat.zero_le _⟩ rfl (rfl) (⟨rfl, rfl, rfl⟩)
    · refine V_iload_n eX7_hasWord_4 rfl rfl ?_
      refine V_aload_n eX7_hasWord_5 rfl rfl ?_
      refine V_getf eX7_hasWord_6 H_this rfl ?_
      refine V_icmp_ge (tgt := 16) eX7_hasWord_9 rfl (by omega) (fun c_9 => ?_) (fun c_9 => ?_)
      · refine V_iconst eX7_hasWord_16 ?_
        exact V_iret eX7_hasWord_17 ⟨Nat.zero_le _, Nat.zero_le _⟩ rfl (rfl) (⟨rfl, rfl, rfl⟩)
      · exact absurd c_9 (by omega)
theorem c_X7_hasEnd {w : Int} (HT : tx_at h t ws me law fee fr) (hN : ws.length ≤ 40) (hw : -2147483648 ≤ w ∧ w ≤ 2147483647) : eb_T mX7_hasEnd [.ref t, .int (eb_I w)] n h (eb_X (some (.int (eb_I (if 0 ≤ w ∧ w ≤ ws.length then 1 else 0)))) n h) := by
  refine eb_T.of (by decide +kernel) (Nat.le_of_ble_eq_true rfl) ?_
  show eb_V _ _ 0 [.ref t, .int (eb_I w)] [] (n, 0, 0) h _
  obtain ⟨H_this, f, H_this_words, hf⟩ := HT
  by_cases c : 0 ≤ w ∧ w ≤ ws.length
  · rw [if_pos c]
    refine V_iload_n eX7_hasEnd_0 rfl rfl ?_
    refine V_if_lt (tgt := 16) eX7_hasEnd_1 rfl (by omega) (fun c_1 => ?_) (fun c_1 => ?_)
    · exact absurd c_1 (by omega)
    · refine V_iload_n eX7_hasEnd_4 rfl rfl ?_
      refine V_aload_n eX7_hasEnd_5 rfl rfl ?_
      refine V_getf eX7_hasEnd_6 H_this rfl ?_
      refine V_icmp_gt (tgt := 16) eX7_hasEnd_9 rfl (by omega) (fun c_9 => ?_) (fun c_9 => ?_)
      · exact absurd c_9 (by omega)
      · refine V_iconst eX7_hasEnd_12 ?_
        refine V_goto (tgt := 17) eX7_hasEnd_13 rfl ?_
        exact V_iret eX7_hasEnd_17 ⟨Nat.zero_le _, Nat.zero_le _⟩ rfl (rfl) (⟨rfl, rfl, rfl⟩)
  · rw [if_neg c]
    refine V_iload_n eX7_hasEnd_0 rfl rfl ?_
    refine V_if_lt (tgt := 16) eX7_hasEnd_1 rfl (by omega) (fun c_1 => ?_) (fun c_1 => ?_)
    · refine V_iconst eX7_hasEnd_16 ?_
      exact V_iret eX7_hasEnd_17 ⟨Nat.zero_le _, Nat.zero_le _⟩ rfl (rfl) (⟨rfl, rfl, rfl⟩)
    · refine V_iload_n eX7_hasEnd_4 rfl rfl ?_
      refine V_aload_n eX7_hasEnd_5 rfl rfl ?_
      refine V_getf eX7_hasEnd_6 H_this rfl ?_
      refine V_icmp_gt (tgt := 16) eX7_hasEnd_9 rfl (by omega) (fun c_9 => ?_) (fun c_9 => ?_)
      · refine V_iconst eX7_hasEnd_16 ?_
        exact V_iret eX7_hasEnd_17 ⟨Nat.zero_le _, Nat.zero_le _⟩ rfl (rfl) (⟨rfl, rfl, rfl⟩)
      · exact absurd c_9 (by omega)
theorem c_X7_setWords {a : Nat} {f : Nat → Int} {N0 : Nat} {g : Nat → Int} (HT : h t = tx_obj t N0 me law fee fr) (HG : h (t + 1) = eb_la 40 g) (HA : h a = eb_la 40 f) (hf : ∀ w (hw : w < ws.length), f w = (sp_enc ws[w] : Int)) (hN : ws.length ≤ 40) : eb_T mX7_setWords [.ref t, .ref a, .int (eb_I (ws.length : Int))] n h (eb_G none n (fun h' => tx_at h' t ws me law fee fr ∧ tx_fr h h' t)) := by
  refine eb_T.of (by decide +kernel) (Nat.le_of_ble_eq_true rfl) ?_
  show eb_V _ _ 0 [.ref t, .ref a, .int (eb_I (ws.length : Int))] [] (n, 0, 0) h _
  have H_this := HT
  have H_this_words := HG
  have H_p1 := HA
  have hw0 : ∀ w (hw : w < ws.length), va_cpy f g (0 : Int).toNat (0 : Int).toNat ((ws.length : Nat) : Int).toNat w = (sp_enc ws[w] : Int) := fun w hw => by
    simp only [va_cpy, Int.toNat_natCast, Int.toNat_zero]
    rw [if_pos (by omega), show 0 + (w - 0) = w by omega]
    exact hf w hw
  refine V_aload_n eX7_setWords_0 rfl rfl ?_
  refine V_iconst eX7_setWords_1 ?_
  refine V_aload_n eX7_setWords_2 rfl rfl ?_
  refine V_getf eX7_setWords_3 H_this rfl ?_
  refine V_iconst eX7_setWords_6 ?_
  refine V_iload_n eX7_setWords_7 rfl rfl ?_
  refine V_acopy eX7_setWords_8 wd_413 wd_415 wd_414 wd_63 (by decide) (Nat.le_of_ble_eq_true rfl) H_p1 H_this_words (by omega) ?_
  refine V_aload_n eX7_setWords_11 rfl rfl ?_
  refine V_iload_n eX7_setWords_12 rfl rfl ?_
  refine V_putf eX7_setWords_13 (eb_up_n (by omega) H_this) eb_fitI (eb_sS eb_s0) (Nat.le_of_ble_eq_true rfl) ?_
  exact V_vret eX7_setWords_16 ⟨Nat.zero_le _, Nat.zero_le _⟩ rfl (⟨rfl, rfl, ⟨eb_up_s, _, eb_up_n (by omega) eb_up_s, hw0⟩, (tx_fr.rf.up (by omega)).up (by omega)⟩)
theorem c_X7_become {u : Nat} (HT : tx_any h t) (HU : tx_at h u ws me law fee fr) (hfr : fr = 0 ∨ fr = 1) (hN : ws.length ≤ 40) (hd : u + 1 < t ∨ t + 1 < u) : eb_T mX7_become [.ref t, .ref u] n h (eb_G none n (fun h' => tx_at h' t ws me law fee fr ∧ tx_fr h h' t)) := by
  refine eb_T.of (by decide +kernel) (Nat.le_of_ble_eq_true rfl) ?_
  show eb_V _ _ 0 [.ref t, .ref u] [] (n, 0, 0) h _
  obtain ⟨N0, me0, law0, fee0, fr0, g, H_this, H_this_words⟩ := HT
  have HU' := HU
  obtain ⟨H_p1, f, H_p1_words, hf⟩ := HU
  refine V_aload_n eX7_become_0 rfl rfl ?_
  refine V_aload_n eX7_become_1 rfl rfl ?_
  refine V_getf eX7_become_2 H_p1 rfl ?_
  refine V_aload_n eX7_become_5 rfl rfl ?_
  refine V_getf eX7_become_6 H_p1 rfl ?_
  refine V_cvg eX7_become_9 (c_X7_setWords (ws := ws) H_this H_this_words H_p1_words hf hN) H_this rfl rfl (Nat.le_of_ble_eq_true rfl) ⟨rfl, rfl⟩ ⟨Nat.zero_le _, Nat.zero_le _⟩ (fun h1 ⟨⟨H_this, f1, H_this_words, hf1⟩, hfr1⟩ => ?_)
  show eb_V _ _ 12 _ [] _ _ _
  have H_p1 : h1 u = _ := (hfr1 u (by omega)).trans H_p1
  refine V_aload_n eX7_become_12 rfl rfl ?_
  refine V_aload_n eX7_become_13 rfl rfl ?_
  refine V_getf eX7_become_14 H_p1 rfl ?_
  refine V_putf eX7_become_17 H_this eb_fitI (eb_sS (eb_sS eb_s0)) (Nat.le_of_ble_eq_true rfl) ?_
  refine V_aload_n eX7_become_20 rfl rfl ?_
  refine V_aload_n eX7_become_21 rfl rfl ?_
  refine V_getf eX7_become_22 (eb_up_n (by omega) H_p1) rfl ?_
  refine V_putf eX7_become_25 eb_up_s eb_fitI (eb_sS (eb_sS (eb_sS eb_s0))) (Nat.le_of_ble_eq_true rfl) ?_
  refine V_aload_n eX7_become_28 rfl rfl ?_
  refine V_aload_n eX7_become_29 rfl rfl ?_
  refine V_getf eX7_become_30 (eb_up_n (by omega) (eb_up_n (by omega) H_p1)) rfl ?_
  refine V_putf eX7_become_33 eb_up_s eb_fitI (eb_sS (eb_sS (eb_sS (eb_sS eb_s0)))) (Nat.le_of_ble_eq_true rfl) ?_
  refine V_aload_n eX7_become_36 rfl rfl ?_
  refine V_aload_n eX7_become_37 rfl rfl ?_
  refine V_getf eX7_become_38 (eb_up_n (by omega) (eb_up_n (by omega) (eb_up_n (by omega) H_p1))) rfl ?_
  refine V_putf eX7_become_41 eb_up_s (eb_fitZ (hfr)) (eb_sS (eb_sS (eb_sS (eb_sS (eb_sS eb_s0))))) (Nat.le_of_ble_eq_true rfl) ?_
  exact V_vret eX7_become_44 ⟨Nat.zero_le _, Nat.zero_le _⟩ rfl (⟨rfl, rfl, ⟨eb_up_s, f1, eb_up_n (by omega) (eb_up_n (by omega) (eb_up_n (by omega) (eb_up_n (by omega) H_this_words))), hf1⟩, hfr1.tr ((((tx_fr.rf.up (by omega)).up (by omega)).up (by omega)).up (by omega))⟩)
theorem c_X7_putIn {w : Nat} {l : List Nat} (HT : tx_at h t ws me law fee fr) (hw : w ≤ ws.length) (hN : ws.length < 40) : eb_T mX7_putIn [.ref t, .int (eb_I (w : Int)), .long (eb_J (sp_enc l : Int))] n h (eb_G none n (fun h' => tx_at h' t (ws.take w ++ l :: ws.drop w) me law fee fr ∧ tx_fr h h' t)) := by
  refine eb_T.of (by decide +kernel) (Nat.le_of_ble_eq_true rfl) ?_
  show eb_V _ _ 0 [.ref t, .int (eb_I (w : Int)), .long (eb_J (sp_enc l : Int)), eb_no, eb_no] [] (n, 0, 0) h _
  have HT' := HT
  have hlen : (ws.take w ++ l :: ws.drop w).length = ws.length + 1 := by simp; omega
  obtain ⟨H_this, f, H_this_words, hf⟩ := HT
  have hfg : ∀ k, k < ws.length → f k = (sp_enc (ws.getD k []) : Int) := fun k hk => by rw [hf k hk]; simp [hk]
  generalize hG : (fun h' => tx_at h' t (ws.take w ++ l :: ws.drop w) me law fee fr ∧ tx_fr h h' t) = G
  have loop : ∀ (d : Nat) (h1 : eb_H) (g : Nat → Int), w + d ≤ ws.length → h1 t = tx_obj t ws.length me law fee fr → h1 (t + 1) = eb_la 40 g → tx_fr h h1 t → (∀ k, k ≤ ws.length → g k = if w + d < k then f (k - 1) else f k) → eb_V mX7_putIn (fun _ _ _ => True) 24 [.ref t, .int (eb_I (w : Int)), .long (eb_J (sp_enc l : Int)), eb_no, .int (eb_I ((w + d : Nat) : Int))] [] (n, 0, 0) h1 (eb_R mX7_putIn (eb_G none n G)) := by
    intro d
    induction d with
    | zero =>
      intro h1 g hd H_this H_this_words hfr1 hg
      refine V_iload eX7_putIn_24 rfl ?_
      refine V_iload_n eX7_putIn_26 rfl rfl ?_
      refine V_icmp_le (tgt := 52) eX7_putIn_27 rfl (by omega) (fun c_27 => ?_) (fun c_27 => ?_)
      · refine V_aload_n eX7_putIn_52 rfl rfl ?_
        refine V_getf eX7_putIn_53 H_this rfl ?_
        refine V_iload_n eX7_putIn_56 rfl rfl ?_
        refine V_lload_n eX7_putIn_57 rfl rfl ?_
        refine V_last eX7_putIn_58 H_this_words (by omega) ?_
        refine V_aload_n eX7_putIn_59 rfl rfl ?_
        refine V_dup eX7_putIn_60 rfl ?_
        refine V_getf eX7_putIn_61 (eb_up_n (by omega) H_this) rfl ?_
        refine V_iconst eX7_putIn_64 ?_
        refine V_iadd eX7_putIn_65 ?_
        rw [show ((ws.length : Nat) : Int) + 1 = (((ws.take w ++ l :: ws.drop w).length : Nat) : Int) by rw [hlen]; omega]
        refine V_putf eX7_putIn_66 (eb_up_n (by omega) H_this) eb_fitI (eb_sS eb_s0) (Nat.le_of_ble_eq_true rfl) ?_
        exact V_vret eX7_putIn_69 ⟨Nat.zero_le _, Nat.zero_le _⟩ rfl (⟨rfl, rfl, by rw [← hG]; exact ⟨⟨eb_up_s, _, eb_up_n (by omega) eb_up_s, fun k hk => by
            rw [tx_ins hw k hk, Int.toNat_natCast]
            unfold eb_set
            by_cases c : k = w
            · subst c
              rw [if_pos rfl, if_neg (by omega), if_pos rfl]
            · rw [if_neg c, hg k (by omega)]
              by_cases c2 : k < w
              · rw [if_neg (by omega), if_pos c2, hfg k (by omega)]
              · rw [if_pos (by omega), if_neg c2, if_neg c, hfg (k - 1) (by omega)]⟩, (hfr1.up (by omega)).up (by omega)⟩⟩)
      · exact absurd (by omega) c_27
    | succ d ih =>
      intro h1 g hd H_this H_this_words hfr1 hg
      have e1 : ((w + (d + 1) : Nat) : Int).toNat = w + (d + 1) := Int.toNat_natCast _
      have e2 : (((w + (d + 1) : Nat) : Int) - 1).toNat = w + d := by omega
      have nxt := ih (eb_up h1 (t + 1) (eb_la 40 (eb_set g (w + (d + 1)) (g (w + d))))) (eb_set g (w + (d + 1)) (g (w + d))) (by omega) (eb_up_n (by omega) H_this) eb_up_s (hfr1.up (by omega)) (fun k hk => by
        unfold eb_set
        by_cases c : k = w + (d + 1)
        · rw [if_pos c, if_pos (by omega), hg (w + d) (by omega), if_neg (by omega), show k - 1 = w + d by omega]
        · rw [if_neg c, hg k hk]
          by_cases c2 : w + (d + 1) < k
          · rw [if_pos c2, if_pos (by omega)]
          · rw [if_neg c2, if_neg (by omega)])
      refine V_iload eX7_putIn_24 rfl ?_
      refine V_iload_n eX7_putIn_26 rfl rfl ?_
      refine V_icmp_le (tgt := 52) eX7_putIn_27 rfl (by omega) (fun c_27 => ?_) (fun c_27 => ?_)
      · exact absurd c_27 (by omega)
      · refine V_aload_n eX7_putIn_30 rfl rfl ?_
        refine V_getf eX7_putIn_31 H_this rfl ?_
        refine V_iload eX7_putIn_34 rfl ?_
        refine V_aload_n eX7_putIn_36 rfl rfl ?_
        refine V_getf eX7_putIn_37 H_this rfl ?_
        refine V_iload eX7_putIn_40 rfl ?_
        refine V_iconst eX7_putIn_42 ?_
        refine V_isub eX7_putIn_43 ?_
        refine V_lald eX7_putIn_44 H_this_words (by omega) ?_
        rw [e2]
        refine V_last eX7_putIn_45 H_this_words (by omega) ?_
        rw [e1]
        refine V_iinc eX7_putIn_46 rfl rfl (eb_sS (eb_sS (eb_sS (eb_sS eb_s0)))) ?_
        refine V_goto (tgt := 24) eX7_putIn_49 rfl ?_
        rw [show ((w + (d + 1) : Nat) : Int) + -1 = ((w + d : Nat) : Int) by omega]
        exact nxt
  refine V_aload_n eX7_putIn_0 rfl rfl ?_
  refine V_getf eX7_putIn_1 H_this rfl ?_
  refine V_bipush eX7_putIn_4 (by decide) ?_
  refine V_icmp_ge (tgt := 17) eX7_putIn_6 rfl (by omega) (fun c_6 => ?_) (fun c_6 => ?_)
  · exact absurd c_6 (by omega)
  · refine V_aload_n eX7_putIn_9 rfl rfl ?_
    refine V_iload_n eX7_putIn_10 rfl rfl ?_
    refine V_cvi eX7_putIn_11 (c_X7_hasEnd HT' (by omega) (by omega)) H_this rfl rfl (Nat.le_of_ble_eq_true rfl) ⟨rfl, rfl⟩ ⟨Nat.zero_le _, Nat.zero_le _⟩ ?_
    rw [if_pos (by omega)]
    refine V_if_ne (tgt := 18) eX7_putIn_14 rfl (by omega) (fun c_14 => ?_) (fun c_14 => ?_)
    · refine V_aload_n eX7_putIn_18 rfl rfl ?_
      refine V_getf eX7_putIn_19 H_this rfl ?_
      refine V_istore eX7_putIn_22 (Nat.le_of_ble_eq_true rfl) rfl (eb_sS (eb_sS (eb_sS (eb_sS eb_s0)))) ?_
      rw [show (ws.length : Int) = ((w + (ws.length - w) : Nat) : Int) by omega]
      exact loop (ws.length - w) h f (by omega) H_this H_this_words tx_fr.rf (fun k hk => by rw [if_neg (by omega)])
    · exact absurd c_14 (by omega)
theorem c_X7_takeOut {w : Nat} (HT : tx_at h t ws me law fee fr) (hw : w < ws.length) (hN : ws.length ≤ 40) : eb_T mX7_takeOut [.ref t, .int (eb_I (w : Int))] n h (eb_G none n (fun h' => tx_at h' t (ws.take w ++ ws.drop (w + 1)) me law fee fr ∧ tx_fr h h' t)) := by
  refine eb_T.of (by decide +kernel) (Nat.le_of_ble_eq_true rfl) ?_
  show eb_V _ _ 0 [.ref t, .int (eb_I (w : Int)), eb_no] [] (n, 0, 0) h _
  have HT' := HT
  have hlen : (ws.take w ++ ws.drop (w + 1)).length = ws.length - 1 := by simp; omega
  obtain ⟨H_this, f, H_this_words, hf⟩ := HT
  have hfg : ∀ k, k < ws.length → f k = (sp_enc (ws.getD k []) : Int) := fun k hk => by rw [hf k hk]; simp [hk]
  generalize hG : (fun h' => tx_at h' t (ws.take w ++ ws.drop (w + 1)) me law fee fr ∧ tx_fr h h' t) = G
  have loop : ∀ (d a : Nat) (h1 : eb_H) (g : Nat → Int), w < a → a + d = ws.length → h1 t = tx_obj t ws.length me law fee fr → h1 (t + 1) = eb_la 40 g → tx_fr h h1 t → (∀ k, k < ws.length → g k = if w ≤ k ∧ k + 1 < a then f (k + 1) else f k) → eb_V mX7_takeOut (fun _ _ _ => True) 13 [.ref t, .int (eb_I (w : Int)), .int (eb_I (a : Int))] [] (n, 0, 0) h1 (eb_R mX7_takeOut (eb_G none n G)) := by
    intro d
    induction d with
    | zero =>
      intro a h1 g ha had H_this H_this_words hfr1 hg
      refine V_iload_n eX7_takeOut_13 rfl rfl ?_
      refine V_aload_n eX7_takeOut_14 rfl rfl ?_
      refine V_getf eX7_takeOut_15 H_this rfl ?_
      refine V_icmp_ge (tgt := 41) eX7_takeOut_18 rfl (by omega) (fun c_18 => ?_) (fun c_18 => ?_)
      · refine V_aload_n eX7_takeOut_41 rfl rfl ?_
        refine V_dup eX7_takeOut_42 rfl ?_
        refine V_getf eX7_takeOut_43 H_this rfl ?_
        refine V_iconst eX7_takeOut_46 ?_
        refine V_isub eX7_takeOut_47 ?_
        rw [show ((ws.length : Nat) : Int) - 1 = (((ws.take w ++ ws.drop (w + 1)).length : Nat) : Int) by rw [hlen]; omega]
        refine V_putf eX7_takeOut_48 H_this eb_fitI (eb_sS eb_s0) (Nat.le_of_ble_eq_true rfl) ?_
        exact V_vret eX7_takeOut_51 ⟨Nat.zero_le _, Nat.zero_le _⟩ rfl (⟨rfl, rfl, by rw [← hG]; exact ⟨⟨eb_up_s, g, eb_up_n (by omega) H_this_words, fun k hk => by
            rw [tx_del hw k hk, hg k (by omega)]
            by_cases c : k < w
            · rw [if_neg (by omega), if_pos c, hfg k (by omega)]
            · rw [if_pos (by omega), if_neg c, hfg (k + 1) (by omega)]⟩, hfr1.up (by omega)⟩⟩)
      · exact absurd (by omega) c_18
    | succ d ih =>
      intro a h1 g ha had H_this H_this_words hfr1 hg
      have e1 : ((a : Nat) : Int).toNat = a := Int.toNat_natCast _
      have e2 : (((a : Nat) : Int) - 1).toNat = a - 1 := by omega
      have nxt := ih (a + 1) (eb_up h1 (t + 1) (eb_la 40 (eb_set g (a - 1) (g a)))) (eb_set g (a - 1) (g a)) (by omega) (by omega) (eb_up_n (by omega) H_this) eb_up_s (hfr1.up (by omega)) (fun k hk => by
        unfold eb_set
        by_cases c : k = a - 1
        · rw [if_pos c, if_pos (by omega), hg a (by omega), if_neg (by omega), show k + 1 = a by omega]
        · rw [if_neg c, hg k hk]
          by_cases c2 : w ≤ k ∧ k + 1 < a
          · rw [if_pos c2, if_pos (by omega)]
          · rw [if_neg c2, if_neg (by omega)])
      refine V_iload_n eX7_takeOut_13 rfl rfl ?_
      refine V_aload_n eX7_takeOut_14 rfl rfl ?_
      refine V_getf eX7_takeOut_15 H_this rfl ?_
      refine V_icmp_ge (tgt := 41) eX7_takeOut_18 rfl (by omega) (fun c_18 => ?_) (fun c_18 => ?_)
      · exact absurd c_18 (by omega)
      · refine V_aload_n eX7_takeOut_21 rfl rfl ?_
        refine V_getf eX7_takeOut_22 H_this rfl ?_
        refine V_iload_n eX7_takeOut_25 rfl rfl ?_
        refine V_iconst eX7_takeOut_26 ?_
        refine V_isub eX7_takeOut_27 ?_
        refine V_aload_n eX7_takeOut_28 rfl rfl ?_
        refine V_getf eX7_takeOut_29 H_this rfl ?_
        refine V_iload_n eX7_takeOut_32 rfl rfl ?_
        refine V_lald eX7_takeOut_33 H_this_words (by omega) ?_
        rw [e1]
        refine V_last eX7_takeOut_34 H_this_words (by omega) ?_
        rw [e2]
        refine V_iinc eX7_takeOut_35 rfl rfl (eb_sS (eb_sS eb_s0)) ?_
        refine V_goto (tgt := 13) eX7_takeOut_38 rfl ?_
        exact nxt
  refine V_aload_n eX7_takeOut_0 rfl rfl ?_
  refine V_iload_n eX7_takeOut_1 rfl rfl ?_
  refine V_cvi eX7_takeOut_2 (c_X7_hasWord HT' (by omega) (by omega)) H_this rfl rfl (Nat.le_of_ble_eq_true rfl) ⟨rfl, rfl⟩ ⟨Nat.zero_le _, Nat.zero_le _⟩ ?_
  rw [if_pos (by omega)]
  refine V_if_ne (tgt := 9) eX7_takeOut_5 rfl (by omega) (fun c_5 => ?_) (fun c_5 => ?_)
  · refine V_iload_n eX7_takeOut_9 rfl rfl ?_
    refine V_iconst eX7_takeOut_10 ?_
    refine V_iadd eX7_takeOut_11 ?_
    refine V_istore_n eX7_takeOut_12 rfl (Nat.le_of_ble_eq_true rfl) rfl (eb_sS (eb_sS eb_s0)) ?_
    exact loop (ws.length - (w + 1)) (w + 1) h f (by omega) (by omega) H_this H_this_words tx_fr.rf (fun k hk => by rw [if_neg (by omega)])
  · exact absurd c_5 (by omega)
end TXS
/-! Draws -/
theorem eb_lrem {a b : Int} (ha : 0 ≤ a ∧ a ≤ 9223372036854775807) (hb : 0 < b ∧ b ≤ 9223372036854775807) : eb_J a - eb_J a / eb_J b * eb_J b = eb_J (a % b) := by
  have h1 : a / b ≤ a := Int.ediv_le_self b ha.1
  have h2 : 0 ≤ a / b := Int.ediv_nonneg ha.1 (by omega)
  have e1 : eb_J a / eb_J b = eb_J (a / b) := by
    apply Int64.toInt_inj.mp
    rw [Int64.toInt_div, eb_J_to (by omega), eb_J_to (by omega), eb_J_to (by omega), Int.tdiv_eq_ediv_of_nonneg ha.1]
    apply Int.bmod_eq_of_le <;> omega
  rw [e1, eb_J_mul, show eb_J a - eb_J (a / b * b) = eb_J (a - a / b * b) from (Int64.ofInt_sub a (a / b * b)).symm, Int.emod_def, Int.mul_comm]
def dr_s (s : Int) : Int := (s * 1103515245 + 12345) % 2147483648
def dr_v (s m : Int) : Int := s / 65536 % m
theorem dr_s_r (s : Int) : 0 ≤ dr_s s ∧ dr_s s ≤ 2147483647 := by unfold dr_s; omega
theorem dr_v_r {s m : Int} (hm : 0 < m) : 0 ≤ dr_v s m ∧ dr_v s m < m := ⟨Int.emod_nonneg _ (by omega), Int.emod_lt_of_pos _ hm⟩
abbrev dr_obj (s : Int) : va_E := .inr (1, [.int (eb_I s)])
/-- so many letters drawn, and the seed behind them -/
def dr_L (s : Int) : Nat → List Nat × Int
  | 0 => ([], s)
  | k + 1 => ((dr_L s k).1 ++ [(97 + dr_v (dr_s (dr_L s k).2) 26).toNat], dr_s (dr_L s k).2)
def dr_W (s : Int) : List Nat × Int := dr_L (dr_s s) ((dr_v (dr_s s) 12).toNat + 1)
theorem dr_L_ok (s : Int) (hs : 0 ≤ s ∧ s ≤ 2147483647) : ∀ k, (∀ c ∈ (dr_L s k).1, 97 ≤ c ∧ c ≤ 122) ∧ (dr_L s k).1.length = k ∧ (0 ≤ (dr_L s k).2 ∧ (dr_L s k).2 ≤ 2147483647) := by
  intro k
  induction k with
  | zero => exact ⟨by simp [dr_L], rfl, hs⟩
  | succ k ih =>
    obtain ⟨h1, h2, h3⟩ := ih
    have hv := dr_v_r (s := dr_s (dr_L s k).2) (m := 26) (by decide)
    refine ⟨fun c hc => ?_, by simp [dr_L, h2], dr_s_r _⟩
    simp only [dr_L] at hc
    rcases List.mem_append.mp hc with q | q
    · exact h1 c q
    · rw [List.mem_singleton.mp q]
      omega
theorem dr_W_ok (s : Int) : sp_ok (dr_W s).1 ∧ 0 < (dr_W s).1.length ∧ (0 ≤ (dr_W s).2 ∧ (dr_W s).2 ≤ 2147483647) := by
  have hv := dr_v_r (s := dr_s s) (m := 12) (by decide)
  obtain ⟨h1, h2, h3⟩ := dr_L_ok (dr_s s) (dr_s_r s) ((dr_v (dr_s s) 12).toNat + 1)
  exact ⟨⟨h1, by unfold dr_W; omega⟩, by unfold dr_W; omega, h3⟩
section DRS
variable {n : Nat} {h : eb_H} {a : Nat} {s : Int}
theorem c_X1_draw {m : Int} (H_this : h a = dr_obj s) (hs : 0 ≤ s ∧ s ≤ 2147483647) (hm : 0 < m ∧ m ≤ 2147483647) : eb_T mX1_draw [.ref a, .int (eb_I m)] n h (eb_X (some (.int (eb_I (dr_v (dr_s s) m)))) n (eb_up h a (dr_obj (dr_s s)))) := by
  refine eb_T.of (by decide +kernel) (Nat.le_of_ble_eq_true rfl) ?_
  show eb_V _ _ 0 [.ref a, .int (eb_I m)] [] (n, 0, 0) h _
  have hr := dr_s_r s
  have hd : 0 ≤ dr_s s / 65536 ∧ dr_s s / 65536 ≤ 2147483647 := by omega
  refine V_aload_n eX1_draw_0 rfl rfl ?_
  refine V_aload_n eX1_draw_1 rfl rfl ?_
  refine V_getf eX1_draw_2 H_this rfl ?_
  refine V_i2lI eX1_draw_5 (by omega) ?_
  refine V_ldc2 (a := 1103515245) eX1_draw_6 wd_611 (by decide) ?_
  refine V_lmul eX1_draw_9 ?_
  refine V_ldc2 (a := 12345) eX1_draw_10 wd_612 (by decide) ?_
  refine V_ladd eX1_draw_13 ?_
  refine V_ldc2 (a := 2147483648) eX1_draw_14 wd_613 (by decide) ?_
  refine V_lrem eX1_draw_17 (by decide) (eb_lrem (by omega) (by omega)) ?_
  refine V_l2iI eX1_draw_18 ?_
  show eb_V _ _ 19 _ [.int (eb_I (dr_s s)), .ref a] _ _ _
  refine V_putf eX1_draw_19 H_this eb_fitI eb_s0 (Nat.le_of_ble_eq_true rfl) ?_
  refine V_iload_n eX1_draw_22 rfl rfl ?_
  refine V_if_le (tgt := 38) eX1_draw_23 rfl (by omega) (fun c_23 => ?_) (fun c_23 => ?_)
  · exact absurd c_23 (by omega)
  · refine V_aload_n eX1_draw_26 rfl rfl ?_
    refine V_getf eX1_draw_27 eb_up_s rfl ?_
    refine V_ldc (a := 65536) eX1_draw_30 wd_614 (by decide) ?_
    refine V_idivI eX1_draw_32 (by omega) (by omega) ?_
    refine V_iload_n eX1_draw_33 rfl rfl ?_
    refine V_iremI eX1_draw_34 (by omega) (by omega) ?_
    refine V_goto (tgt := 39) eX1_draw_35 rfl ?_
    exact V_iret eX1_draw_39 ⟨Nat.zero_le _, Nat.zero_le _⟩ rfl (rfl) (⟨rfl, rfl, rfl⟩)
theorem c_X1_drawWord (H_this : h a = dr_obj s) (hs : 0 ≤ s ∧ s ≤ 2147483647) : eb_T mX1_drawWord [.ref a] n h (eb_G (some (.long (eb_J (sp_enc (dr_W s).1 : Int)))) n (fun h' => h' a = dr_obj (dr_W s).2 ∧ ∀ k, k ≠ a → h' k = h k)) := by
  refine eb_T.of (by decide +kernel) (Nat.le_of_ble_eq_true rfl) ?_
  show eb_V _ _ 0 [.ref a, eb_no, eb_no, eb_no, eb_no] [] (n, 0, 0) h _
  have hv := dr_v_r (s := dr_s s) (m := 12) (by decide)
  generalize hG : (fun h' : eb_H => h' a = dr_obj (dr_W s).2 ∧ ∀ k, k ≠ a → h' k = h k) = G
  have loop : ∀ (d i : Nat) (h1 : eb_H), i + d = (dr_v (dr_s s) 12).toNat + 1 → h1 a = dr_obj (dr_L (dr_s s) i).2 → (∀ k, k ≠ a → h1 k = h k) → eb_V mX1_drawWord (fun _ _ _ => True) 14 [.ref a, .int (eb_I (dr_v (dr_s s) 12 + 1)), .long (eb_J (sp_enc (dr_L (dr_s s) i).1 : Int)), eb_no, .int (eb_I (i : Int))] [] (n, 0, 0) h1 (eb_R mX1_drawWord (eb_G (some (.long (eb_J (sp_enc (dr_W s).1 : Int)))) n G)) := by
    intro d
    induction d with
    | zero =>
      intro i h1 hid H_this hfr1
      have : i = (dr_v (dr_s s) 12).toNat + 1 := by omega
      subst this
      refine V_iload eX1_drawWord_14 rfl ?_
      refine V_iload_n eX1_drawWord_16 rfl rfl ?_
      refine V_icmp_ge (tgt := 42) eX1_drawWord_17 rfl (by omega) (fun c_17 => ?_) (fun c_17 => ?_)
      · refine V_lload_n eX1_drawWord_42 rfl rfl ?_
        exact V_lret eX1_drawWord_43 ⟨Nat.zero_le _, Nat.zero_le _⟩ rfl (⟨rfl, rfl, by rw [← hG]; exact ⟨H_this, hfr1⟩⟩)
      · exact absurd (by omega) c_17
    | succ d ih =>
      intro i h1 hid H_this hfr1
      obtain ⟨g1, g2, g3⟩ := dr_L_ok (dr_s s) (dr_s_r s) i
      have hv2 := dr_v_r (s := dr_s (dr_L (dr_s s) i).2) (m := 26) (by decide)
      have nxt := ih (i + 1) (eb_up h1 a (dr_obj (dr_s (dr_L (dr_s s) i).2))) (by omega) eb_up_s (fun k hk => by rw [eb_up, if_neg hk]; exact hfr1 k hk)
      have T := c_X5_withLetter (n := n) (h := eb_up h1 a (dr_obj (dr_s (dr_L (dr_s s) i).2))) (l := (dr_L (dr_s s) i).1) (c := (97 + dr_v (dr_s (dr_L (dr_s s) i).2) 26).toNat) ⟨g1, by omega⟩ (by omega) (by omega)
      rw [g2] at T
      refine V_iload eX1_drawWord_14 rfl ?_
      refine V_iload_n eX1_drawWord_16 rfl rfl ?_
      refine V_icmp_ge (tgt := 42) eX1_drawWord_17 rfl (by omega) (fun c_17 => ?_) (fun c_17 => ?_)
      · exact absurd c_17 (by omega)
      · refine V_lload_n eX1_drawWord_20 rfl rfl ?_
        refine V_iload eX1_drawWord_21 rfl ?_
        refine V_bipush eX1_drawWord_23 (by decide) ?_
        refine V_aload_n eX1_drawWord_25 rfl rfl ?_
        refine V_bipush eX1_drawWord_26 (by decide) ?_
        refine V_cvi eX1_drawWord_28 (c_X1_draw H_this g3 (by decide)) H_this rfl rfl (Nat.le_of_ble_eq_true rfl) ⟨rfl, rfl⟩ ⟨Nat.zero_le _, Nat.zero_le _⟩ ?_
        refine V_iadd eX1_drawWord_31 ?_
        refine V_eqI (b := (((97 + dr_v (dr_s (dr_L (dr_s s) i).2) 26).toNat : Nat) : Int)) (by omega) ?_
        refine V_csi eX1_drawWord_32 (T) rfl rfl (Nat.le_of_ble_eq_true rfl) ⟨rfl, rfl⟩ ⟨Nat.zero_le _, Nat.zero_le _⟩ ?_
        refine V_lstore_n eX1_drawWord_35 rfl (Nat.le_of_ble_eq_true rfl) rfl (eb_sS (eb_sS eb_s0)) (eb_sS (eb_sS (eb_sS eb_s0))) ?_
        refine V_iinc eX1_drawWord_36 rfl rfl (eb_sS (eb_sS (eb_sS (eb_sS eb_s0)))) ?_
        refine V_goto (tgt := 14) eX1_drawWord_39 rfl ?_
        exact nxt
  refine V_aload_n eX1_drawWord_0 rfl rfl ?_
  refine V_bipush eX1_drawWord_1 (by decide) ?_
  refine V_cvi eX1_drawWord_3 (c_X1_draw H_this hs (by decide)) H_this rfl rfl (Nat.le_of_ble_eq_true rfl) ⟨rfl, rfl⟩ ⟨Nat.zero_le _, Nat.zero_le _⟩ ?_
  refine V_iconst eX1_drawWord_6 ?_
  refine V_iadd eX1_drawWord_7 ?_
  refine V_istore_n eX1_drawWord_8 rfl (Nat.le_of_ble_eq_true rfl) rfl (eb_sS eb_s0) ?_
  refine V_lconst (b := 0) eX1_drawWord_9 (by decide) ?_
  refine V_lstore_n eX1_drawWord_10 rfl (Nat.le_of_ble_eq_true rfl) rfl (eb_sS (eb_sS eb_s0)) (eb_sS (eb_sS (eb_sS eb_s0))) ?_
  refine V_iconst eX1_drawWord_11 ?_
  refine V_istore eX1_drawWord_12 (Nat.le_of_ble_eq_true rfl) rfl (eb_sS (eb_sS (eb_sS (eb_sS eb_s0)))) ?_
  exact loop ((dr_v (dr_s s) 12).toNat + 1) 0 _ (by omega) eb_up_s (fun k hk => by rw [eb_up, if_neg hk])
end DRS
