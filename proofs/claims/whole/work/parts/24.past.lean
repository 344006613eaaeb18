/-! Past: a ring of texts -/
abbrev pa_obj (p : Nat) (nx ct : Int) : va_E := .inr (4, [.ref (p + 1), .int (eb_I nx), .int (eb_I ct)])
def pa_at (h : eb_H) (p : Nat) (past : List TX) : Prop := ∃ (nx : Nat) (f : Nat → Option Nat), h p = pa_obj p nx past.length ∧ h (p + 1) = eb_qa 3 16 f ∧ (∀ j, j < 16 → f j = some (p + 2 + 2 * j)) ∧ nx < 16 ∧ past.length ≤ 16 ∧ (∀ j, j < 16 → tx_any h (p + 2 + 2 * j)) ∧ ∀ i (hi : i < past.length), tx h (p + 2 + 2 * ((nx + 15 - i) % 16)) past[i]
def pa_fr (h h' : eb_H) (p : Nat) : Prop := ∀ k, (k < p ∨ p + 33 < k) → h' k = h k
theorem pa_at.kept {h h' : eb_H} {p : Nat} {past : List TX} (H : pa_at h p past) (hk : ∀ k, p ≤ k → k ≤ p + 33 → h' k = h k) : pa_at h' p past := by
  obtain ⟨nx, f, a1, a2, a3, a4, a5, a6, a7⟩ := H
  exact ⟨nx, f, (hk p (by omega) (by omega)).trans a1, (hk (p + 1) (by omega) (by omega)).trans a2, a3, a4, a5, fun j hj => (a6 j hj).kept (hk _ (by omega) (by omega)) (hk _ (by omega) (by omega)), fun i hi => (a7 i hi).kept (hk _ (by omega) (by omega)) (hk _ (by omega) (by omega))⟩
section PAS
variable {n : Nat} {h : eb_H} {p u : Nat} {past : List TX} {T : TX}
theorem c_X4_remember (HP : pa_at h p past) (HU : tx h u T) (HO : TX_ok T) (hu : u + 1 < p ∨ p + 33 < u) : eb_T mX4_remember [.ref p, .ref u] n h (eb_G none n (fun h' => pa_at h' p ((T :: past).take 16) ∧ pa_fr h h' p)) := by
  refine eb_T.of (by decide +kernel) (Nat.le_of_ble_eq_true rfl) ?_
  show eb_V _ _ 0 [.ref p, .ref u] [] (n, 0, 0) h _
  obtain ⟨nx, f, H_this, H_this_texts, hf, hnx, hpl, hany, hpast⟩ := HP
  have hfr := HO.1.2.2.2.2
  have hN := HO.1.1
  have hfn : f ((nx : Nat) : Int).toNat = some (p + 2 + 2 * nx) := by rw [Int.toNat_natCast]; exact hf nx hnx
  obtain ⟨N0, me0, la0, fe0, fr0, g0, H_sl, H_slw⟩ := hany nx hnx
  have hlen : ((T :: past).take 16).length = min (past.length + 1) 16 := by simp; omega
  refine V_aload_n eX4_remember_0 rfl rfl ?_
  refine V_getf eX4_remember_1 H_this rfl ?_
  refine V_aload_n eX4_remember_4 rfl rfl ?_
  refine V_getf eX4_remember_5 H_this rfl ?_
  refine V_aald eX4_remember_8 (Or.inl rfl) H_this_texts (by omega) (hfn) ?_
  refine V_aload_n eX4_remember_9 rfl rfl ?_
  refine V_cvg eX4_remember_10 (c_X7_become (hany nx hnx) HU hfr hN (by omega)) H_sl rfl rfl (Nat.le_of_ble_eq_true rfl) ⟨rfl, rfl⟩ ⟨Nat.zero_le _, Nat.zero_le _⟩ (fun h1 ⟨HT1, hfr1⟩ => ?_)
  show eb_V _ _ 13 _ [] _ _ _
  have H_this : h1 p = _ := (hfr1 p (by omega)).trans H_this
  refine V_aload_n eX4_remember_13 rfl rfl ?_
  refine V_aload_n eX4_remember_14 rfl rfl ?_
  refine V_getf eX4_remember_15 H_this rfl ?_
  refine V_iconst eX4_remember_18 ?_
  refine V_iadd eX4_remember_19 ?_
  refine V_bipush eX4_remember_20 (by decide) ?_
  refine V_iremI eX4_remember_22 (by omega) (by omega) ?_
  refine V_eqI (b := (((nx + 1) % 16 : Nat) : Int)) (by omega) ?_
  refine V_putf eX4_remember_23 H_this eb_fitI (eb_sS eb_s0) (Nat.le_of_ble_eq_true rfl) ?_
  refine V_aload_n eX4_remember_26 rfl rfl ?_
  refine V_aload_n eX4_remember_27 rfl rfl ?_
  refine V_getf eX4_remember_28 eb_up_s rfl ?_
  refine V_iconst eX4_remember_31 ?_
  refine V_iadd eX4_remember_32 ?_
  refine V_bipush eX4_remember_33 (by decide) ?_
  refine V_mmin eX4_remember_35 (by omega) (Nat.le_of_ble_eq_true rfl) ⟨Nat.zero_le _, Nat.zero_le _⟩ ?_
  refine V_eqI (b := (((T :: past).take 16).length : Int)) (by rw [hlen]; omega) ?_
  refine V_putf eX4_remember_38 eb_up_s eb_fitI (eb_sS (eb_sS eb_s0)) (Nat.le_of_ble_eq_true rfl) ?_
  refine V_vret eX4_remember_41 ⟨Nat.zero_le _, Nat.zero_le _⟩ rfl (⟨rfl, rfl, ⟨(nx + 1) % 16, f, eb_up_s, eb_up_n (by omega) (eb_up_n (by omega) ((hfr1 (p + 1) (by omega)).trans H_this_texts)), hf, by omega, by rw [hlen]; omega, fun j hj => ?_, fun i hi => ?_⟩, fun k hk => ?_⟩)
  · by_cases c : j = nx
    · subst c
      exact HT1.any.kept (by rw [eb_up, if_neg (by omega), eb_up, if_neg (by omega)]) (by rw [eb_up, if_neg (by omega), eb_up, if_neg (by omega)])
    · exact (hany j hj).kept (by rw [eb_up, if_neg (by omega), eb_up, if_neg (by omega)]; exact hfr1 _ (by omega)) (by rw [eb_up, if_neg (by omega), eb_up, if_neg (by omega)]; exact hfr1 _ (by omega))
  · have hi16 : i < past.length + 1 ∧ i < 16 := by rw [hlen] at hi; omega
    rw [List.getElem_take]
    cases i with
    | zero =>
      rw [show ((nx + 1) % 16 + 15 - 0) % 16 = nx by omega]
      exact HT1.kept (by rw [eb_up, if_neg (by omega), eb_up, if_neg (by omega)]) (by rw [eb_up, if_neg (by omega), eb_up, if_neg (by omega)])
    | succ i =>
      rw [List.getElem_cons_succ, show ((nx + 1) % 16 + 15 - (i + 1)) % 16 = (nx + 15 - i) % 16 by omega]
      exact (hpast i (by omega)).kept (by rw [eb_up, if_neg (by omega), eb_up, if_neg (by omega)]; exact hfr1 _ (by omega)) (by rw [eb_up, if_neg (by omega), eb_up, if_neg (by omega)]; exact hfr1 _ (by omega))
  · rw [eb_up, if_neg (by omega), eb_up, if_neg (by omega)]
    exact hfr1 k (by omega)
theorem c_X4_giveBack {m : Nat} (HP : pa_at h p past) (HU : tx_any h u) (HO : ∀ T ∈ past, TX_ok T) (hu : u + 1 < p ∨ p + 33 < u) (hm : 0 < m) (hml : m ≤ past.length) : eb_T mX4_giveBack [.ref p, .int (eb_I (m : Int)), .ref u] n h (eb_G none n (fun h' => (tx h' u (past[m - 1]'(by omega)) ∧ pa_at h' p (past.drop m)) ∧ ∀ k, ((k < p ∨ p + 33 < k) ∧ (k < u ∨ u + 1 < k)) → h' k = h k)) := by
  refine eb_T.of (by decide +kernel) (Nat.le_of_ble_eq_true rfl) ?_
  show eb_V _ _ 0 [.ref p, .int (eb_I (m : Int)), .ref u] [] (n, 0, 0) h _
  obtain ⟨nx, f, H_this, H_this_texts, hf, hnx, hpl, hany, hpast⟩ := HP
  have hTo := HO _ (List.getElem_mem (show m - 1 < past.length by omega))
  have hfr := hTo.1.2.2.2.2
  have hN := hTo.1.1
  have hsl := hpast (m - 1) (by omega)
  rw [show (nx + 15 - (m - 1)) % 16 = (nx + 16 - m) % 16 by omega] at hsl
  obtain ⟨sl, hsl0⟩ : ∃ sl, sl = (nx + 16 - m) % 16 := ⟨_, rfl⟩
  rw [← hsl0] at hsl
  have hsl1 : sl < 16 := by omega
  have hfn : f ((sl : Nat) : Int).toNat = some (p + 2 + 2 * sl) := by rw [Int.toNat_natCast]; exact hf sl hsl1
  obtain ⟨N0, me0, la0, fe0, fr0, g0, H_p2, H_p2w⟩ := HU
  have HU' : tx_any h u := ⟨N0, me0, la0, fe0, fr0, g0, H_p2, H_p2w⟩
  have e2 : ∀ (e1 e2 : va_E) k, k ≠ p → eb_up (eb_up h p e1) p e2 k = h k := fun e1 e2 k hk => by rw [eb_up, if_neg hk, eb_up, if_neg hk]
  refine V_aload_n eX4_giveBack_0 rfl rfl ?_
  refine V_aload_n eX4_giveBack_1 rfl rfl ?_
  refine V_getf eX4_giveBack_2 H_this rfl ?_
  refine V_bipush eX4_giveBack_5 (by decide) ?_
  refine V_iadd eX4_giveBack_7 ?_
  refine V_iload_n eX4_giveBack_8 rfl rfl ?_
  refine V_isub eX4_giveBack_9 ?_
  refine V_bipush eX4_giveBack_10 (by decide) ?_
  refine V_iremI eX4_giveBack_12 (by omega) (by omega) ?_
  refine V_eqI (b := (sl : Int)) (by omega) ?_
  refine V_putf eX4_giveBack_13 H_this eb_fitI (eb_sS eb_s0) (Nat.le_of_ble_eq_true rfl) ?_
  refine V_aload_n eX4_giveBack_16 rfl rfl ?_
  refine V_dup eX4_giveBack_17 rfl ?_
  refine V_getf eX4_giveBack_18 eb_up_s rfl ?_
  refine V_iload_n eX4_giveBack_21 rfl rfl ?_
  refine V_isub eX4_giveBack_22 ?_
  refine V_eqI (b := ((past.drop m).length : Int)) (by rw [List.length_drop]; omega) ?_
  refine V_putf eX4_giveBack_23 eb_up_s eb_fitI (eb_sS (eb_sS eb_s0)) (Nat.le_of_ble_eq_true rfl) ?_
  refine V_aload_n eX4_giveBack_26 rfl rfl ?_
  refine V_aload_n eX4_giveBack_27 rfl rfl ?_
  refine V_getf eX4_giveBack_28 eb_up_s rfl ?_
  refine V_aload_n eX4_giveBack_31 rfl rfl ?_
  refine V_getf eX4_giveBack_32 eb_up_s rfl ?_
  refine V_aald eX4_giveBack_35 (Or.inl rfl) (eb_up_n (by omega) (eb_up_n (by omega) H_this_texts)) (by omega) (hfn) ?_
  refine V_cvg eX4_giveBack_36 (c_X7_become (HU'.kept (e2 _ _ _ (by omega)) (e2 _ _ _ (by omega))) (hsl.kept (e2 _ _ _ (by omega)) (e2 _ _ _ (by omega))) hfr hN (by omega)) (eb_up_n (by omega) (eb_up_n (by omega) H_p2)) rfl rfl (Nat.le_of_ble_eq_true rfl) ⟨rfl, rfl⟩ ⟨Nat.zero_le _, Nat.zero_le _⟩ (fun h1 ⟨HT1, hfr1⟩ => ?_)
  show eb_V _ _ 39 _ [] _ _ _
  refine V_vret eX4_giveBack_39 ⟨Nat.zero_le _, Nat.zero_le _⟩ rfl (⟨rfl, rfl, ⟨HT1, sl, f, (hfr1 p (by omega)).trans eb_up_s, (hfr1 (p + 1) (by omega)).trans (eb_up_n (by omega) (eb_up_n (by omega) H_this_texts)), hf, hsl1, by rw [List.length_drop]; omega, fun j hj => ?_, fun i hi => ?_⟩, fun k hk => ?_⟩)
  · exact (hany j hj).kept ((hfr1 _ (by omega)).trans (e2 _ _ _ (by omega))) ((hfr1 _ (by omega)).trans (e2 _ _ _ (by omega)))
  · have hi2 : i < past.length - m := by rw [List.length_drop] at hi; exact hi
    rw [List.getElem_drop, show (sl + 15 - i) % 16 = (nx + 15 - (m + i)) % 16 by omega]
    exact (hpast (m + i) (by omega)).kept ((hfr1 _ (by omega)).trans (e2 _ _ _ (by omega))) ((hfr1 _ (by omega)).trans (e2 _ _ _ (by omega)))
  · exact (hfr1 k (by omega)).trans (e2 _ _ _ (by omega))
end PAS
/-! Book -/
abbrev bk_obj (b : Nat) (ct : Int) : va_E := .inr (0, [.ref (b + 1), .ref (b + 2), .int (eb_I ct)])
def bk_at (h : eb_H) (b : Nat) (es : List (Int × Int)) : Prop := ∃ f g : Nat → Int, h b = bk_obj b es.length ∧ h (b + 1) = eb_ia 20 f ∧ h (b + 2) = eb_ia 20 g ∧ ∀ k (hk : k < es.length), f k = es[k].1 ∧ g k = es[k].2
def bk_ok (es : List (Int × Int)) : Prop := es.length ≤ 20 ∧ ∀ e ∈ es, (0 ≤ e.1 ∧ e.1 < 40) ∧ (-1 ≤ e.2 ∧ e.2 ≤ 40)
def bO (B : List Nat) (k : Int) : Int := if 0 ≤ k ∧ k < B.length then (B.getD k.toNat 0 : Int) else -1
def bw (B : List Nat) : List (Int × Int) → Nat → Int
  | [], _ => -1
  | e :: t, i => if bO B e.1 ≠ e.2 then (i : Int) else bw B t (i + 1)
section BKS
variable {n : Nat} {h : eb_H} {a : Nat} {es : List (Int × Int)}
theorem c_X0_add {k e : Int} (HB : bk_at h a es) (hl : es.length ≤ 20) : eb_T mX0_add [.ref a, .int (eb_I k), .int (eb_I e)] n h (eb_G (some (.int (eb_I (if 20 ≤ es.length then -1000000004 else (es.length : Int) + 1)))) n (fun h' => bk_at h' a (if 20 ≤ es.length then es else es ++ [(k, e)]) ∧ ty_fr h h' a)) := by
  refine eb_T.of (by decide +kernel) (Nat.le_of_ble_eq_true rfl) ?_
  show eb_V _ _ 0 [.ref a, .int (eb_I k), .int (eb_I e)] [] (n, 0, 0) h _
  have HB' := HB
  obtain ⟨f, g, H_this, H_this_lineOf, H_this_beginOf, hfg⟩ := HB
  by_cases z : 20 ≤ es.length
  · rw [if_pos z, if_pos z]
    refine V_aload_n eX0_add_0 rfl rfl ?_
    refine V_getf eX0_add_1 H_this rfl ?_
    refine V_bipush eX0_add_4 (by decide) ?_
    refine V_icmp_lt (tgt := 12) eX0_add_6 rfl (by omega) (fun c_6 => ?_) (fun c_6 => ?_)
    · exact absurd c_6 (by omega)
    · refine V_ldc (a := -1000000004) eX0_add_9 wd_676 (by decide) ?_
      exact V_iret eX0_add_11 ⟨Nat.zero_le _, Nat.zero_le _⟩ rfl (rfl) (⟨rfl, rfl, HB', ty_fr.rf⟩)
  · rw [if_neg z, if_neg z]
    refine V_aload_n eX0_add_0 rfl rfl ?_
    refine V_getf eX0_add_1 H_this rfl ?_
    refine V_bipush eX0_add_4 (by decide) ?_
    refine V_icmp_lt (tgt := 12) eX0_add_6 rfl (by omega) (fun c_6 => ?_) (fun c_6 => ?_)
    · refine V_aload_n eX0_add_12 rfl rfl ?_
      refine V_getf eX0_add_13 H_this rfl ?_
      refine V_aload_n eX0_add_16 rfl rfl ?_
      refine V_getf eX0_add_17 H_this rfl ?_
      refine V_iload_n eX0_add_20 rfl rfl ?_
      refine V_iast eX0_add_21 H_this_lineOf (by omega) ?_
      refine V_aload_n eX0_add_22 rfl rfl ?_
      refine V_getf eX0_add_23 (eb_up_n (by omega) H_this) rfl ?_
      refine V_aload_n eX0_add_26 rfl rfl ?_
      refine V_getf eX0_add_27 (eb_up_n (by omega) H_this) rfl ?_
      refine V_iload_n eX0_add_30 rfl rfl ?_
      refine V_iast eX0_add_31 (eb_up_n (by omega) H_this_beginOf) (by omega) ?_
      refine V_aload_n eX0_add_32 rfl rfl ?_
      refine V_dup eX0_add_33 rfl ?_
      refine V_getf eX0_add_34 (eb_up_n (by omega) (eb_up_n (by omega) H_this)) rfl ?_
      refine V_iconst eX0_add_37 ?_
      refine V_iadd eX0_add_38 ?_
      refine V_eqI (b := ((es ++ [(k, e)]).length : Int)) (by simp) ?_
      refine V_putf eX0_add_39 (eb_up_n (by omega) (eb_up_n (by omega) H_this)) eb_fitI (eb_sS (eb_sS eb_s0)) (Nat.le_of_ble_eq_true rfl) ?_
      refine V_aload_n eX0_add_42 rfl rfl ?_
      refine V_getf eX0_add_43 eb_up_s rfl ?_
      refine V_eqI (b := (es.length : Int) + 1) (by simp) ?_
      exact V_iret eX0_add_46 ⟨Nat.zero_le _, Nat.zero_le _⟩ rfl (rfl) (⟨rfl, rfl, ⟨_, _, eb_up_s, eb_up_n (by omega) (eb_up_n (by omega) eb_up_s), eb_up_n (by omega) eb_up_s, fun j hj => by
          simp only [eb_set, Int.toNat_natCast]
          by_cases y : j = es.length
          · subst y
            simp
          · have hj2 : j < es.length := by simp at hj; omega
            rw [if_neg y, if_neg y, List.getElem_append_left hj2]
            exact hfg j hj2⟩, ((ty_fr.rf.up (by omega)).up (by omega)).up (by omega)⟩)
    · exact absurd (by omega) c_6
theorem c_X0_firstWrong {b rt N bg : Nat} {me law fee fr : Int} {pl to ow lb ro : Nat → Int} {B : List Nat} (HB : bk_at h a es) (ho : bk_ok es) (HL : ly_at h b rt N me law fee fr (B.length : Int) bg pl to ow lb ro) (hB : B.length ≤ 40) (hb : ∀ x ∈ B, x < 100) (hlb : ∀ k (hk : k < B.length), lb k = (B[k] : Int)) : eb_T mX0_firstWrong [.ref a, .ref b] n h (eb_X (some (.int (eb_I (bw B es 0)))) n h) := by
  refine eb_T.of (by decide +kernel) (Nat.le_of_ble_eq_true rfl) ?_
  show eb_V _ _ 0 [.ref a, .ref b, eb_no] [] (n, 0, 0) h _
  have hl := ho.1
  obtain ⟨f, g, H_this, H_this_lineOf, H_this_beginOf, hfg⟩ := HB
  have H_p1 := HL.1
  have loop : ∀ (d i : Nat), i + d = es.length → bw B (es.drop i) i = bw B es 0 → eb_V mX0_firstWrong (fun _ _ _ => True) 2 [.ref a, .ref b, .int (eb_I (i : Int))] [] (n, 0, 0) h (eb_R mX0_firstWrong (eb_X (some (.int (eb_I (bw B es 0)))) n h)) := by
    intro d
    induction d with
    | zero =>
      intro i hi hbw
      have : i = es.length := by omega
      subst this
      rw [List.drop_length] at hbw
      rw [← hbw]
      refine V_iload_n eX0_firstWrong_2 rfl rfl ?_
      refine V_aload_n eX0_firstWrong_3 rfl rfl ?_
      refine V_getf eX0_firstWrong_4 H_this rfl ?_
      refine V_icmp_ge (tgt := 37) eX0_firstWrong_7 rfl (by omega) (fun c_7 => ?_) (fun c_7 => ?_)
      · refine V_iconst eX0_firstWrong_37 ?_
        exact V_iret eX0_firstWrong_38 ⟨Nat.zero_le _, Nat.zero_le _⟩ rfl (rfl) (⟨rfl, rfl, rfl⟩)
      · exact absurd (by omega) c_7
    | succ d ih =>
      intro i hi hbw
      have hil : i < es.length := by omega
      obtain ⟨r1, r2⟩ := ho.2 es[i] (List.getElem_mem hil)
      obtain ⟨e1, e2⟩ := hfg i hil
      rw [List.drop_eq_getElem_cons hil] at hbw
      simp only [bw] at hbw
      have eB : (if 0 ≤ es[i].1 ∧ es[i].1 < B.length then lb es[i].1.toNat else -1) = bO B es[i].1 := by
        unfold bO
        by_cases c : 0 ≤ es[i].1 ∧ es[i].1 < B.length
        · have c2 : es[i].1.toNat < B.length := by omega
          rw [if_pos c, if_pos c, hlb _ c2]
          simp [c2]
        · rw [if_neg c, if_neg c]
      have rB : -1 ≤ bO B es[i].1 ∧ bO B es[i].1 ≤ 100 := by
        unfold bO
        split
        · rename_i c
          have c2 : es[i].1.toNat < B.length := by omega
          have := hb B[es[i].1.toNat] (List.getElem_mem c2)
          simp [c2]
          omega
        · omega
      have T := c_X3_beginOf (n := n) (k := es[i].1) HL hB (by omega)
      rw [eB] at T
      by_cases c : bO B es[i].1 ≠ es[i].2
      · rw [if_pos c] at hbw
        rw [← hbw]
        refine V_iload_n eX0_firstWrong_2 rfl rfl ?_
        refine V_aload_n eX0_firstWrong_3 rfl rfl ?_
        refine V_getf eX0_firstWrong_4 H_this rfl ?_
        refine V_icmp_ge (tgt := 37) eX0_firstWrong_7 rfl (by omega) (fun c_7 => ?_) (fun c_7 => ?_)
        · exact absurd c_7 (by omega)
        · refine V_aload_n eX0_firstWrong_10 rfl rfl ?_
          refine V_aload_n eX0_firstWrong_11 rfl rfl ?_
          refine V_getf eX0_firstWrong_12 H_this rfl ?_
          refine V_iload_n eX0_firstWrong_15 rfl rfl ?_
          refine V_iald eX0_firstWrong_16 H_this_lineOf (by omega) ?_
          rw [Int.toNat_natCast, e1]
          refine V_cvi eX0_firstWrong_17 (T) H_p1 rfl rfl (Nat.le_of_ble_eq_true rfl) ⟨rfl, rfl⟩ ⟨Nat.zero_le _, Nat.zero_le _⟩ ?_
          refine V_aload_n eX0_firstWrong_20 rfl rfl ?_
          refine V_getf eX0_firstWrong_21 H_this rfl ?_
          refine V_iload_n eX0_firstWrong_24 rfl rfl ?_
          refine V_iald eX0_firstWrong_25 H_this_beginOf (by omega) ?_
          rw [Int.toNat_natCast, e2]
          refine V_icmp_eq (tgt := 31) eX0_firstWrong_26 rfl (by omega) (fun c_26 => ?_) (fun c_26 => ?_)
          · exact absurd c_26 c
          · refine V_iload_n eX0_firstWrong_29 rfl rfl ?_
            exact V_iret eX0_firstWrong_30 ⟨Nat.zero_le _, Nat.zero_le _⟩ rfl (rfl) (⟨rfl, rfl, rfl⟩)
      · rw [if_neg c] at hbw
        refine V_iload_n eX0_firstWrong_2 rfl rfl ?_
        refine V_aload_n eX0_firstWrong_3 rfl rfl ?_
        refine V_getf eX0_firstWrong_4 H_this rfl ?_
        refine V_icmp_ge (tgt := 37) eX0_firstWrong_7 rfl (by omega) (fun c_7 => ?_) (fun c_7 => ?_)
        · exact absurd c_7 (by omega)
        · refine V_aload_n eX0_firstWrong_10 rfl rfl ?_
          refine V_aload_n eX0_firstWrong_11 rfl rfl ?_
          refine V_getf eX0_firstWrong_12 H_this rfl ?_
          refine V_iload_n eX0_firstWrong_15 rfl rfl ?_
          refine V_iald eX0_firstWrong_16 H_this_lineOf (by omega) ?_
          rw [Int.toNat_natCast, e1]
          refine V_cvi eX0_firstWrong_17 (T) H_p1 rfl rfl (Nat.le_of_ble_eq_true rfl) ⟨rfl, rfl⟩ ⟨Nat.zero_le _, Nat.zero_le _⟩ ?_
          refine V_aload_n eX0_firstWrong_20 rfl rfl ?_
          refine V_getf eX0_firstWrong_21 H_this rfl ?_
          refine V_iload_n eX0_firstWrong_24 rfl rfl ?_
          refine V_iald eX0_firstWrong_25 H_this_beginOf (by omega) ?_
          rw [Int.toNat_natCast, e2]
          refine V_icmp_eq (tgt := 31) eX0_firstWrong_26 rfl (by omega) (fun c_26 => ?_) (fun c_26 => ?_)
          · refine V_iinc eX0_firstWrong_31 rfl rfl (eb_sS (eb_sS eb_s0)) ?_
            refine V_goto (tgt := 2) eX0_firstWrong_34 rfl ?_
            exact ih (i + 1) (by omega) hbw
          · exact absurd c_26 (by omega)
  refine V_iconst eX0_firstWrong_0 ?_
  refine V_istore_n eX0_firstWrong_1 rfl (Nat.le_of_ble_eq_true rfl) rfl (eb_sS (eb_sS eb_s0)) ?_
  exact loop es.length 0 (by omega) (by rw [List.drop_zero])
end BKS
