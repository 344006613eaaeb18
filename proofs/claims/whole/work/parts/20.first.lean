/-! the least number of a kind, or -1 -/
def lc (S : Nat → Prop) (v : Int) : Prop := (v = -1 ∧ ∀ m, ¬ S m) ∨ ∃ m : Nat, S m ∧ v = (m : Int) ∧ ∀ m', S m' → m ≤ m'
theorem lc_ex (S : Nat → Prop) : ∃ v, lc S v := by
  by_cases h : ∃ m, S m
  · obtain ⟨m, hm⟩ := h
    induction m using Nat.strongRecOn with
    | _ m ih =>
      by_cases c : ∃ k, k < m ∧ S k
      · obtain ⟨k, h1, h2⟩ := c
        exact ih k h1 h2
      · refine ⟨(m : Int), Or.inr ⟨m, hm, rfl, fun k hk => ?_⟩⟩
        rcases Nat.lt_or_ge k m with z | z
        · exact absurd ⟨k, z, hk⟩ c
        · exact z
  · exact ⟨-1, Or.inl ⟨rfl, fun m hm => h ⟨m, hm⟩⟩⟩
theorem lc_none {S : Nat → Prop} {v : Int} (h : lc S v) (hn : ∀ m, ¬ S m) : v = -1 := by
  rcases h with ⟨h1, -⟩ | ⟨m, h1, -⟩
  · exact h1
  · exact absurd h1 (hn m)
theorem lc_at {S : Nat → Prop} {v : Int} (h : lc S v) {m : Nat} (hm : S m) (hl : ∀ k, S k → m ≤ k) : v = (m : Int) := by
  rcases h with ⟨-, h1⟩ | ⟨k, h1, h2, h3⟩
  · exact absurd hm (h1 m)
  · have a := h3 m hm
    have b := hl k h1
    omega
/-- crossed by the law (sign 1: not even; -1: not odd) -/
def fc_P (c : Nat → Nat → Int) (sgn : Int) (i k j l : Nat) : Prop := sgn * (c i l - c k l) < sgn * (c i j - c k j)
def fc_2 (c : Nat → Nat → Int) (N : Nat) (sgn : Int) (i k m : Nat) : Prop := ∃ j l, k < j ∧ j < l ∧ l ≤ N ∧ fc_P c sgn i k j l ∧ m = (j + 1) * 41 + l + 1
def fc_4 (c : Nat → Nat → Int) (N : Nat) (sgn : Int) (m : Nat) : Prop := ∃ i k j l, i < k ∧ k < j ∧ j < l ∧ l ≤ N ∧ fc_P c sgn i k j l ∧ m = ((i + 1) * 41 + k + 1) * 1681 + (j + 1) * 41 + l + 1
/-- no fall from one to the next: no fall at all -/
theorem fc_adj {D : Nat → Int} {lo N : Nat} (h : ∀ j, lo < j → j ≤ N → ¬ D j < D (j - 1)) : ∀ j l, lo ≤ j → j < l → l ≤ N → ¬ D l < D j := by
  intro j l hj hl hN
  induction l with
  | zero => omega
  | succ l ih =>
    rcases Nat.lt_or_ge j l with z | z
    · have a := ih z (by omega)
      have b := h (l + 1) (by omega) hN
      rw [Nat.add_sub_cancel] at b
      omega
    · have : j = l := by omega
      subst this
      have b := h (j + 1) (by omega) hN
      rw [Nat.add_sub_cancel] at b
      exact b
section LYF
variable {n : Nat} {h : eb_H} {b rt N bg : Nat} {me law fee fr lines : Int} {pl to ow lb ro : Nat → Int} {wf : Nat → Int}
theorem c_X3_firstFall {i k : Nat} {sgn w : Int} (HL : ly_at h b rt N me law fee fr lines bg pl to ow lb ro) (hrt : rt < b) (hq : lt_ok (N, wf, me, law, fee, fr)) (hpl : ∀ k, k ≤ N → pl k = lt_pl wf k) (hik : i < k) (hk : k < N) (hs : sgn = 1 ∨ sgn = -1) (hw : lc (fc_2 (lt_c (N, wf, me, law, fee, fr)) N sgn i k) w) :
    eb_T mX3_firstFall [.ref b, .int (eb_I (i : Int)), .int (eb_I (k : Int)), .int (eb_I sgn)] n h (eb_G (some (.int (eb_I w))) n (fun h' => (∃ ro', ly_at h' b rt N me law fee fr lines bg pl to ow lb ro') ∧ ly_fr h h' b)) := by
  refine eb_T.of (by decide +kernel) (Nat.le_of_ble_eq_true rfl) ?_
  show eb_V _ _ 0 [.ref b, .int (eb_I (i : Int)), .int (eb_I (k : Int)), .int (eb_I sgn), eb_no, eb_no, eb_no] [] (n, 0, 0) h _
  have hN : N ≤ 40 := hq.1.1
  have hco := lt_cok hq
  generalize hcc : lt_c (N, wf, me, law, fee, fr) = c at hco hw
  generalize hG : (fun h' => (∃ ro', ly_at h' b rt N me law fee fr lines bg pl to ow lb ro') ∧ ly_fr h h' b) = G
  generalize hD : (fun j => sgn * (c i j - c k j)) = D
  have hDe : ∀ j, sgn * (c i j - c k j) = D j := fun j => by rw [← hD]
  have hDr : ∀ j, k < j → j ≤ N → -13690099 ≤ D j ∧ D j ≤ 13690099 := fun j h1 h2 => by
    have a := hco i j (by omega) h2
    have a2 := hco k j h1 h2
    rw [← hDe]
    rcases hs with rfl | rfl <;> omega
  have hPD : ∀ j l, fc_P c sgn i k j l ↔ D l < D j := fun j l => by unfold fc_P; rw [hDe, hDe]
  have l3 : ∀ (d1 j : Nat) (h1 : eb_H) (ro1 : Nat → Int) (x4 x6 : Value), k < j → j + d1 = N → ly_at h1 b rt N me law fee fr lines bg pl to ow lb ro1 → ly_fr h h1 b → (∀ x, k < x → x ≤ N → ro1 x = D x) → (∀ j' l', k < j' → j' < j → j' < l' → l' ≤ N → ¬ D l' < D j') → eb_V mX3_firstFall (fun _ _ _ => True) 98 [.ref b, .int (eb_I (i : Int)), .int (eb_I (k : Int)), .int (eb_I sgn), .int (eb_I 1), .int (eb_I (j : Int)), x6] [] (n, 0, 0) h1 (eb_R mX3_firstFall (eb_G (some (.int (eb_I w))) n G)) := by
    intro d1
    induction d1 with
    | zero =>
      intro j h1 ro1 x4 x6 hkj hjd HL1 hfr g g2
      have HL1' := HL1
      have hw1 : w = -1 := lc_none hw (fun m hm => by
        obtain ⟨j', l', a1, a2, a3, a4, a5⟩ := hm
        exact g2 j' l' a1 (by omega) a2 a3 ((hPD j' l').mp a4))
      subst hw1
      obtain ⟨H_this, H_this_place, H_this_total, H_this_owner, H_this_lineBegin, H_this_row, H_this_roots⟩ := HL1
      refine V_iload eX3_firstFall_98 rfl ?_
      refine V_aload_n eX3_firstFall_100 rfl rfl ?_
      refine V_getf eX3_firstFall_101 H_this rfl ?_
      refine V_icmp_ge (tgt := 164) eX3_firstFall_104 rfl (by omega) (fun c_104 => ?_) (fun c_104 => ?_)
      · refine V_iconst eX3_firstFall_164 ?_
        exact V_iret eX3_firstFall_165 ⟨Nat.zero_le _, Nat.zero_le _⟩ rfl (rfl) (⟨rfl, rfl, by rw [← hG]; exact ⟨⟨ro1, HL1'⟩, hfr⟩⟩)
      · exact absurd (by omega) c_104
    | succ d1 ih =>
      intro j h1 ro1 x4 x6 hkj hjd HL1 hfr g g2
      have HL1' := HL1
      obtain ⟨H_this, H_this_place, H_this_total, H_this_owner, H_this_lineBegin, H_this_row, H_this_roots⟩ := HL1
      have hDj := hDr j hkj (by omega)
      have inner : ∀ (d2 l : Nat), j < l → l + d2 = N + 1 → (∀ l', j < l' → l' < l → ¬ D l' < D j) → eb_V mX3_firstFall (fun _ _ _ => True) 113 [.ref b, .int (eb_I (i : Int)), .int (eb_I (k : Int)), .int (eb_I sgn), .int (eb_I 1), .int (eb_I (j : Int)), .int (eb_I (l : Int))] [] (n, 0, 0) h1 (eb_R mX3_firstFall (eb_G (some (.int (eb_I w))) n G)) := by
        intro d2
        induction d2 with
        | zero =>
          intro l hjl hld g3
          refine V_iload eX3_firstFall_113 rfl ?_
          refine V_aload_n eX3_firstFall_115 rfl rfl ?_
          refine V_getf eX3_firstFall_116 H_this rfl ?_
          refine V_icmp_gt (tgt := 158) eX3_firstFall_119 rfl (by omega) (fun c_119 => ?_) (fun c_119 => ?_)
          · refine V_iinc eX3_firstFall_158 rfl rfl (eb_sS (eb_sS (eb_sS (eb_sS (eb_sS eb_s0))))) ?_
            refine V_goto (tgt := 98) eX3_firstFall_161 rfl ?_
            exact ih (j + 1) h1 ro1 x4 _ (by omega) (by omega) HL1' hfr g (fun j' l' a1 a2 a3 a4 => by
              rcases Nat.lt_or_ge j' j with z | z
              · exact g2 j' l' a1 z a3 a4
              · have : j' = j := by omega
                subst this
                exact g3 l' a3 (by omega))
          · exact absurd (by omega) c_119
        | succ d2 ih2 =>
          intro l hjl hld g3
          have hDl := hDr l (by omega) (by omega)
          have hv : D l < D j → w = (((j + 1) * 41 + l + 1 : Nat) : Int) := fun hlt => lc_at hw ⟨j, l, hkj, hjl, by omega, (hPD j l).mpr hlt, rfl⟩ (fun m hm => by
            obtain ⟨j', l', a1, a2, a3, a4, a5⟩ := hm
            have a6 := (hPD j' l').mp a4
            rcases Nat.lt_trichotomy j' j with z | z | z
            · exact absurd a6 (g2 j' l' a1 z a2 a3)
            · subst z
              rcases Nat.lt_or_ge l' l with y | y
              · exact absurd a6 (g3 l' a2 y)
              · omega
            · omega)
          refine V_iload eX3_firstFall_113 rfl ?_
          refine V_aload_n eX3_firstFall_115 rfl rfl ?_
          refine V_getf eX3_firstFall_116 H_this rfl ?_
          refine V_icmp_gt (tgt := 158) eX3_firstFall_119 rfl (by omega) (fun c_119 => ?_) (fun c_119 => ?_)
          · exact absurd c_119 (by omega)
          · refine V_aload_n eX3_firstFall_122 rfl rfl ?_
            refine V_getf eX3_firstFall_123 H_this rfl ?_
            refine V_iload eX3_firstFall_126 rfl ?_
            refine V_iald eX3_firstFall_128 H_this_row (by omega) ?_
            rw [Int.toNat_natCast, g l (by omega) (by omega)]
            refine V_aload_n eX3_firstFall_129 rfl rfl ?_
            refine V_getf eX3_firstFall_130 H_this rfl ?_
            refine V_iload eX3_firstFall_133 rfl ?_
            refine V_iald eX3_firstFall_135 H_this_row (by omega) ?_
            rw [Int.toNat_natCast, g j hkj (by omega)]
            refine V_icmp_ge (tgt := 152) eX3_firstFall_136 rfl (by omega) (fun c_136 => ?_) (fun c_136 => ?_)
            · refine V_iinc eX3_firstFall_152 rfl rfl (eb_sS (eb_sS (eb_sS (eb_sS (eb_sS (eb_sS eb_s0)))))) ?_
              refine V_goto (tgt := 113) eX3_firstFall_155 rfl ?_
              exact ih2 (l + 1) (by omega) (by omega) (fun l' a1 a2 => by
                rcases Nat.lt_or_ge l' l with z | z
                · exact g3 l' a1 z
                · have : l' = l := by omega
                  subst this
                  omega)
            · refine V_iload eX3_firstFall_139 rfl ?_
              refine V_iconst eX3_firstFall_141 ?_
              refine V_iadd eX3_firstFall_142 ?_
              refine V_bipush eX3_firstFall_143 (by decide) ?_
              refine V_imul eX3_firstFall_145 ?_
              refine V_iload eX3_firstFall_146 rfl ?_
              refine V_iadd eX3_firstFall_148 ?_
              refine V_iconst eX3_firstFall_149 ?_
              refine V_iadd eX3_firstFall_150 ?_
              refine V_eqI (b := w) (by have := hv (by omega); omega) ?_
              exact V_iret eX3_firstFall_151 ⟨Nat.zero_le _, Nat.zero_le _⟩ rfl (rfl) (⟨rfl, rfl, by rw [← hG]; exact ⟨⟨ro1, HL1'⟩, hfr⟩⟩)
      refine V_iload eX3_firstFall_98 rfl ?_
      refine V_aload_n eX3_firstFall_100 rfl rfl ?_
      refine V_getf eX3_firstFall_101 H_this rfl ?_
      refine V_icmp_ge (tgt := 164) eX3_firstFall_104 rfl (by omega) (fun c_104 => ?_) (fun c_104 => ?_)
      · exact absurd c_104 (by omega)
      · refine V_iload eX3_firstFall_107 rfl ?_
        refine V_iconst eX3_firstFall_109 ?_
        refine V_iadd eX3_firstFall_110 ?_
        refine V_istore eX3_firstFall_111 (Nat.le_of_ble_eq_true rfl) rfl (eb_sS (eb_sS (eb_sS (eb_sS (eb_sS (eb_sS eb_s0)))))) ?_
        exact inner (N - j) (j + 1) (by omega) (by omega) (fun l' a1 a2 => absurd a2 (by omega))
  have l1 : ∀ (d j : Nat) (h1 : eb_H) (ro1 : Nat → Int) (fl : Int) (x6 : Value), k < j → j + d = N + 1 → ly_at h1 b rt N me law fee fr lines bg pl to ow lb ro1 → ly_fr h h1 b → (∀ x, k < x → x < j → ro1 x = D x) → ((fl = 1 ∧ True) ∨ (fl = 0 ∧ ∀ x, k + 1 < x → x < j → ¬ D x < D (x - 1))) → eb_V mX3_firstFall (fun _ _ _ => True) 8 [.ref b, .int (eb_I (i : Int)), .int (eb_I (k : Int)), .int (eb_I sgn), .int (eb_I fl), .int (eb_I (j : Int)), x6] [] (n, 0, 0) h1 (eb_R mX3_firstFall (eb_G (some (.int (eb_I w))) n G)) := by
    intro d
    induction d with
    | zero =>
      intro j h1 ro1 fl x6 hkj hjd HL1 hfr g g2
      have HL1' := HL1
      obtain ⟨H_this, H_this_place, H_this_total, H_this_owner, H_this_lineBegin, H_this_row, H_this_roots⟩ := HL1
      rcases g2 with ⟨rfl, -⟩ | ⟨rfl, g2⟩
      · refine V_iload eX3_firstFall_8 rfl ?_
        refine V_aload_n eX3_firstFall_10 rfl rfl ?_
        refine V_getf eX3_firstFall_11 H_this rfl ?_
        refine V_icmp_gt (tgt := 86) eX3_firstFall_14 rfl (by omega) (fun c_14 => ?_) (fun c_14 => ?_)
        · refine V_iload eX3_firstFall_86 rfl ?_
          refine V_if_ne (tgt := 93) eX3_firstFall_88 rfl (by omega) (fun c_88 => ?_) (fun c_88 => ?_)
          · refine V_iload_n eX3_firstFall_93 rfl rfl ?_
            refine V_iconst eX3_firstFall_94 ?_
            refine V_iadd eX3_firstFall_95 ?_
            refine V_istore eX3_firstFall_96 (Nat.le_of_ble_eq_true rfl) rfl (eb_sS (eb_sS (eb_sS (eb_sS (eb_sS eb_s0))))) ?_
            exact l3 (N - (k + 1)) (k + 1) h1 ro1 (.int (eb_I 0)) _ (by omega) (by omega) HL1' hfr (fun x a1 a2 => g x a1 (by omega)) (fun j' l' a1 a2 => absurd a2 (by omega))
          · exact absurd c_88 (by omega)
        · exact absurd (by omega) c_14
      · have hw1 : w = -1 := lc_none hw (fun m hm => by
          obtain ⟨j', l', a1, a2, a3, a4, a5⟩ := hm
          exact fc_adj (D := D) (lo := k + 1) (N := N) (fun x b1 b2 => g2 x b1 (by omega)) j' l' (by omega) a2 a3 ((hPD j' l').mp a4))
        subst hw1
        refine V_iload eX3_firstFall_8 rfl ?_
        refine V_aload_n eX3_firstFall_10 rfl rfl ?_
        refine V_getf eX3_firstFall_11 H_this rfl ?_
        refine V_icmp_gt (tgt := 86) eX3_firstFall_14 rfl (by omega) (fun c_14 => ?_) (fun c_14 => ?_)
        · refine V_iload eX3_firstFall_86 rfl ?_
          refine V_if_ne (tgt := 93) eX3_firstFall_88 rfl (by omega) (fun c_88 => ?_) (fun c_88 => ?_)
          · exact absurd rfl c_88
          · refine V_iconst eX3_firstFall_91 ?_
            exact V_iret eX3_firstFall_92 ⟨Nat.zero_le _, Nat.zero_le _⟩ rfl (rfl) (⟨rfl, rfl, by rw [← hG]; exact ⟨⟨ro1, HL1'⟩, hfr⟩⟩)
        · exact absurd (by omega) c_14
    | succ d ih =>
      intro j h1 ro1 fl x6 hkj hjd HL1 hfr g g2
      have HL1' := HL1
      have T1 := c_X3_pr (n := n) (i := i) (j := j) HL1' hq hpl (by omega) (by omega)
      have T2 := c_X3_pr (n := n) (i := k) (j := j) HL1' hq hpl (by omega) (by omega)
      rw [hcc] at T1 T2
      have hDj := hDr j hkj (by omega)
      have HL3 := ly_u5 (f := eb_set ro1 ((j : Nat) : Int).toNat (D j)) HL1' hrt
      have hfr3 := hfr.up (a := b + 5) (e := eb_ia 41 (eb_set ro1 ((j : Nat) : Int).toNat (D j))) (by omega)
      have gs : ∀ x, k < x → x < j + 1 → eb_set ro1 ((j : Nat) : Int).toNat (D j) x = D x := fun x a1 a2 => by
        rw [Int.toNat_natCast]
        unfold eb_set
        by_cases z : x = j
        · rw [if_pos z, z]
        · rw [if_neg z]
          exact g x a1 (by omega)
      have J : ∀ fl' : Int, ((fl' = 1 ∧ True) ∨ (fl' = 0 ∧ ∀ x, k + 1 < x → x < j + 1 → ¬ D x < D (x - 1))) → eb_V mX3_firstFall (fun _ _ _ => True) 78 [.ref b, .int (eb_I (i : Int)), .int (eb_I (k : Int)), .int (eb_I sgn), .int (eb_I fl), .int (eb_I (j : Int)), x6] [.int (eb_I fl')] (n, 0, 0) (eb_up h1 (b + 5) (eb_ia 41 (eb_set ro1 ((j : Nat) : Int).toNat (D j)))) (eb_R mX3_firstFall (eb_G (some (.int (eb_I w))) n G)) := by
        intro fl' hfl
        refine V_istore eX3_firstFall_78 (Nat.le_of_ble_eq_true rfl) rfl (eb_sS (eb_sS (eb_sS (eb_sS eb_s0)))) ?_
        refine V_iinc eX3_firstFall_80 rfl rfl (eb_sS (eb_sS (eb_sS (eb_sS (eb_sS eb_s0))))) ?_
        refine V_goto (tgt := 8) eX3_firstFall_83 rfl ?_
        exact ih (j + 1) _ _ fl' _ (by omega) (by omega) HL3 hfr3 gs hfl
      obtain ⟨H_this, H_this_place, H_this_total, H_this_owner, H_this_lineBegin, H_this_row, H_this_roots⟩ := HL1
      rcases g2 with ⟨rfl, -⟩ | ⟨rfl, g2⟩
      · refine V_iload eX3_firstFall_8 rfl ?_
        refine V_aload_n eX3_firstFall_10 rfl rfl ?_
        refine V_getf eX3_firstFall_11 H_this rfl ?_
        refine V_icmp_gt (tgt := 86) eX3_firstFall_14 rfl (by omega) (fun c_14 => ?_) (fun c_14 => ?_)
        · exact absurd c_14 (by omega)
        · refine V_aload_n eX3_firstFall_17 rfl rfl ?_
          refine V_getf eX3_firstFall_18 H_this rfl ?_
          refine V_iload eX3_firstFall_21 rfl ?_
          refine V_iload_n eX3_firstFall_23 rfl rfl ?_
          refine V_aload_n eX3_firstFall_24 rfl rfl ?_
          refine V_iload_n eX3_firstFall_25 rfl rfl ?_
          refine V_iload eX3_firstFall_26 rfl ?_
          refine V_cvi eX3_firstFall_28 (T1) H_this rfl rfl (Nat.le_of_ble_eq_true rfl) ⟨rfl, rfl⟩ ⟨Nat.zero_le _, Nat.zero_le _⟩ ?_
          refine V_aload_n eX3_firstFall_31 rfl rfl ?_
          refine V_iload_n eX3_firstFall_32 rfl rfl ?_
          refine V_iload eX3_firstFall_33 rfl ?_
          refine V_cvi eX3_firstFall_35 (T2) H_this rfl rfl (Nat.le_of_ble_eq_true rfl) ⟨rfl, rfl⟩ ⟨Nat.zero_le _, Nat.zero_le _⟩ ?_
          refine V_isub eX3_firstFall_38 ?_
          refine V_imul eX3_firstFall_39 ?_
          rw [hDe j]
          refine V_iast eX3_firstFall_40 H_this_row (by omega) ?_
          refine V_iload eX3_firstFall_41 rfl ?_
          refine V_if_ne (tgt := 73) eX3_firstFall_43 rfl (by omega) (fun c_43 => ?_) (fun c_43 => ?_)
          · refine V_iconst eX3_firstFall_73 ?_
            refine V_goto (tgt := 78) eX3_firstFall_74 rfl ?_
            exact J 1 (Or.inl ⟨rfl, trivial⟩)
          · exact absurd c_43 (by omega)
      · by_cases hj1 : j ≤ k + 1
        · refine V_iload eX3_firstFall_8 rfl ?_
          refine V_aload_n eX3_firstFall_10 rfl rfl ?_
          refine V_getf eX3_firstFall_11 H_this rfl ?_
          refine V_icmp_gt (tgt := 86) eX3_firstFall_14 rfl (by omega) (fun c_14 => ?_) (fun c_14 => ?_)
          · exact absurd c_14 (by omega)
          · refine V_aload_n eX3_firstFall_17 rfl rfl ?_
            refine V_getf eX3_firstFall_18 H_this rfl ?_
            refine V_iload eX3_firstFall_21 rfl ?_
            refine V_iload_n eX3_firstFall_23 rfl rfl ?_
            refine V_aload_n eX3_firstFall_24 rfl rfl ?_
            refine V_iload_n eX3_firstFall_25 rfl rfl ?_
            refine V_iload eX3_firstFall_26 rfl ?_
            refine V_cvi eX3_firstFall_28 (T1) H_this rfl rfl (Nat.le_of_ble_eq_true rfl) ⟨rfl, rfl⟩ ⟨Nat.zero_le _, Nat.zero_le _⟩ ?_
            refine V_aload_n eX3_firstFall_31 rfl rfl ?_
            refine V_iload_n eX3_firstFall_32 rfl rfl ?_
            refine V_iload eX3_firstFall_33 rfl ?_
            refine V_cvi eX3_firstFall_35 (T2) H_this rfl rfl (Nat.le_of_ble_eq_true rfl) ⟨rfl, rfl⟩ ⟨Nat.zero_le _, Nat.zero_le _⟩ ?_
            refine V_isub eX3_firstFall_38 ?_
            refine V_imul eX3_firstFall_39 ?_
            rw [hDe j]
            refine V_iast eX3_firstFall_40 H_this_row (by omega) ?_
            refine V_iload eX3_firstFall_41 rfl ?_
            refine V_if_ne (tgt := 73) eX3_firstFall_43 rfl (by omega) (fun c_43 => ?_) (fun c_43 => ?_)
            · exact absurd rfl c_43
            · refine V_iload eX3_firstFall_46 rfl ?_
              refine V_iload_n eX3_firstFall_48 rfl rfl ?_
              refine V_iconst eX3_firstFall_49 ?_
              refine V_iadd eX3_firstFall_50 ?_
              refine V_icmp_le (tgt := 77) eX3_firstFall_51 rfl (by omega) (fun c_51 => ?_) (fun c_51 => ?_)
              · refine V_iconst eX3_firstFall_77 ?_
                exact J 0 (Or.inr ⟨rfl, fun x a1 a2 => absurd a2 (by omega)⟩)
              · exact absurd (by omega) c_51
        · have g3 := gs (j - 1) (by omega) (by omega)
          have g4 := gs j hkj (by omega)
          have hDj1 := hDr (j - 1) (by omega) (by omega)
          have e3 : ((j : Int) - 1).toNat = j - 1 := by omega
          refine V_iload eX3_firstFall_8 rfl ?_
          refine V_aload_n eX3_firstFall_10 rfl rfl ?_
          refine V_getf eX3_firstFall_11 H_this rfl ?_
          refine V_icmp_gt (tgt := 86) eX3_firstFall_14 rfl (by omega) (fun c_14 => ?_) (fun c_14 => ?_)
          · exact absurd c_14 (by omega)
          · refine V_aload_n eX3_firstFall_17 rfl rfl ?_
            refine V_getf eX3_firstFall_18 H_this rfl ?_
            refine V_iload eX3_firstFall_21 rfl ?_
            refine V_iload_n eX3_firstFall_23 rfl rfl ?_
            refine V_aload_n eX3_firstFall_24 rfl rfl ?_
            refine V_iload_n eX3_firstFall_25 rfl rfl ?_
            refine V_iload eX3_firstFall_26 rfl ?_
            refine V_cvi eX3_firstFall_28 (T1) H_this rfl rfl (Nat.le_of_ble_eq_true rfl) ⟨rfl, rfl⟩ ⟨Nat.zero_le _, Nat.zero_le _⟩ ?_
            refine V_aload_n eX3_firstFall_31 rfl rfl ?_
            refine V_iload_n eX3_firstFall_32 rfl rfl ?_
            refine V_iload eX3_firstFall_33 rfl ?_
            refine V_cvi eX3_firstFall_35 (T2) H_this rfl rfl (Nat.le_of_ble_eq_true rfl) ⟨rfl, rfl⟩ ⟨Nat.zero_le _, Nat.zero_le _⟩ ?_
            refine V_isub eX3_firstFall_38 ?_
            refine V_imul eX3_firstFall_39 ?_
            rw [hDe j]
            refine V_iast eX3_firstFall_40 H_this_row (by omega) ?_
            refine V_iload eX3_firstFall_41 rfl ?_
            refine V_if_ne (tgt := 73) eX3_firstFall_43 rfl (by omega) (fun c_43 => ?_) (fun c_43 => ?_)
            · exact absurd rfl c_43
            · refine V_iload eX3_firstFall_46 rfl ?_
              refine V_iload_n eX3_firstFall_48 rfl rfl ?_
              refine V_iconst eX3_firstFall_49 ?_
              refine V_iadd eX3_firstFall_50 ?_
              refine V_icmp_le (tgt := 77) eX3_firstFall_51 rfl (by omega) (fun c_51 => ?_) (fun c_51 => ?_)
              · exact absurd c_51 (by omega)
              · refine V_aload_n eX3_firstFall_54 rfl rfl ?_
                refine V_getf eX3_firstFall_55 (eb_up_n (by omega) H_this) rfl ?_
                refine V_iload eX3_firstFall_58 rfl ?_
                refine V_iald eX3_firstFall_60 eb_up_s (by omega) ?_
                rw [show eb_set ro1 ((j : Nat) : Int).toNat (D j) ((j : Nat) : Int).toNat = D j by rw [Int.toNat_natCast] at g4 ⊢; exact g4]
                refine V_aload_n eX3_firstFall_61 rfl rfl ?_
                refine V_getf eX3_firstFall_62 (eb_up_n (by omega) H_this) rfl ?_
                refine V_iload eX3_firstFall_65 rfl ?_
                refine V_iconst eX3_firstFall_67 ?_
                refine V_isub eX3_firstFall_68 ?_
                refine V_iald eX3_firstFall_69 eb_up_s (by omega) ?_
                rw [e3, g3]
                refine V_icmp_ge (tgt := 77) eX3_firstFall_70 rfl (by omega) (fun c_70 => ?_) (fun c_70 => ?_)
                · refine V_iconst eX3_firstFall_77 ?_
                  exact J 0 (Or.inr ⟨rfl, fun x a1 a2 => by
                    rcases Nat.lt_or_ge x j with z | z
                    · exact g2 x a1 z
                    · have : x = j := by omega
                      subst this
                      omega⟩)
                · refine V_iconst eX3_firstFall_73 ?_
                  refine V_goto (tgt := 78) eX3_firstFall_74 rfl ?_
                  exact J 1 (Or.inl ⟨rfl, trivial⟩)
  refine V_iconst eX3_firstFall_0 ?_
  refine V_istore eX3_firstFall_1 (Nat.le_of_ble_eq_true rfl) rfl (eb_sS (eb_sS (eb_sS (eb_sS eb_s0)))) ?_
  refine V_iload_n eX3_firstFall_3 rfl rfl ?_
  refine V_iconst eX3_firstFall_4 ?_
  refine V_iadd eX3_firstFall_5 ?_
  refine V_istore eX3_firstFall_6 (Nat.le_of_ble_eq_true rfl) rfl (eb_sS (eb_sS (eb_sS (eb_sS (eb_sS eb_s0))))) ?_
  exact l1 (N - k) (k + 1) h ro 0 _ (by omega) (by omega) HL ly_fr.rf (fun x a1 a2 => absurd a2 (by omega)) (Or.inr ⟨rfl, fun x a1 a2 => absurd a2 (by omega)⟩)
theorem c_X3_firstCrossed {sgn v : Int} (HL : ly_at h b rt N me law fee fr lines bg pl to ow lb ro) (hrt : rt < b) (hq : lt_ok (N, wf, me, law, fee, fr)) (hpl : ∀ k, k ≤ N → pl k = lt_pl wf k) (hs : sgn = 1 ∨ sgn = -1) (hv : lc (fc_4 (lt_c (N, wf, me, law, fee, fr)) N sgn) v) :
    eb_T mX3_firstCrossed [.ref b, .int (eb_I sgn)] n h (eb_G (some (.int (eb_I v))) n (fun h' => (∃ ro', ly_at h' b rt N me law fee fr lines bg pl to ow lb ro') ∧ ly_fr h h' b)) := by
  refine eb_T.of (by decide +kernel) (Nat.le_of_ble_eq_true rfl) ?_
  show eb_V _ _ 0 [.ref b, .int (eb_I sgn), eb_no, eb_no, eb_no] [] (n, 0, 0) h _
  have hN : N ≤ 40 := hq.1.1
  generalize hcc : lt_c (N, wf, me, law, fee, fr) = c at hv
  generalize hG : (fun h' => (∃ ro', ly_at h' b rt N me law fee fr lines bg pl to ow lb ro') ∧ ly_fr h h' b) = G
  have l1 : ∀ (d i : Nat) (h1 : eb_H) (ro1 : Nat → Int) (x3 x4 : Value), i + d = N → ly_at h1 b rt N me law fee fr lines bg pl to ow lb ro1 → ly_fr h h1 b → (∀ i' k' m, i' < i → i' < k' → ¬ fc_2 c N sgn i' k' m) → eb_V mX3_firstCrossed (fun _ _ _ => True) 2 [.ref b, .int (eb_I sgn), .int (eb_I (i : Int)), x3, x4] [] (n, 0, 0) h1 (eb_R mX3_firstCrossed (eb_G (some (.int (eb_I v))) n G)) := by
    intro d
    induction d with
    | zero =>
      intro i h1 ro1 x3 x4 hid HL1 hfr g
      have HL1' := HL1
      have hv1 : v = -1 := lc_none hv (fun m hm => by
        obtain ⟨i', k', j', l', a1, a2, a3, a4, a5, a6⟩ := hm
        exact g i' k' _ (by omega) a1 ⟨j', l', a2, a3, a4, a5, rfl⟩)
      subst hv1
      obtain ⟨H_this, H_this_place, H_this_total, H_this_owner, H_this_lineBegin, H_this_row, H_this_roots⟩ := HL1
      refine V_iload_n eX3_firstCrossed_2 rfl rfl ?_
      refine V_aload_n eX3_firstCrossed_3 rfl rfl ?_
      refine V_getf eX3_firstCrossed_4 H_this rfl ?_
      refine V_icmp_ge (tgt := 69) eX3_firstCrossed_7 rfl (by omega) (fun c_7 => ?_) (fun c_7 => ?_)
      · refine V_iconst eX3_firstCrossed_69 ?_
        exact V_iret eX3_firstCrossed_70 ⟨Nat.zero_le _, Nat.zero_le _⟩ rfl (rfl) (⟨rfl, rfl, by rw [← hG]; exact ⟨⟨ro1, HL1'⟩, hfr⟩⟩)
      · exact absurd (by omega) c_7
    | succ d ih =>
      intro i h1 ro1 x3 x4 hid HL1 hfr g
      have inner : ∀ (d2 k : Nat) (h2 : eb_H) (ro2 : Nat → Int) (x4 : Value), i < k → k + d2 = max N (i + 1) → ly_at h2 b rt N me law fee fr lines bg pl to ow lb ro2 → ly_fr h h2 b → (∀ k' m, i < k' → k' < k → ¬ fc_2 c N sgn i k' m) → eb_V mX3_firstCrossed (fun _ _ _ => True) 14 [.ref b, .int (eb_I sgn), .int (eb_I (i : Int)), .int (eb_I (k : Int)), x4] [] (n, 0, 0) h2 (eb_R mX3_firstCrossed (eb_G (some (.int (eb_I v))) n G)) := by
        intro d2
        induction d2 with
        | zero =>
          intro k h2 ro2 x4 hik hkd HL2 hfr2 g2
          have HL2' := HL2
          obtain ⟨H_this, H_this_place, H_this_total, H_this_owner, H_this_lineBegin, H_this_row, H_this_roots⟩ := HL2
          refine V_iload_n eX3_firstCrossed_14 rfl rfl ?_
          refine V_aload_n eX3_firstCrossed_15 rfl rfl ?_
          refine V_getf eX3_firstCrossed_16 H_this rfl ?_
          refine V_icmp_ge (tgt := 63) eX3_firstCrossed_19 rfl (by omega) (fun c_19 => ?_) (fun c_19 => ?_)
          · refine V_iinc eX3_firstCrossed_63 rfl rfl (eb_sS (eb_sS eb_s0)) ?_
            refine V_goto (tgt := 2) eX3_firstCrossed_66 rfl ?_
            exact ih (i + 1) h2 ro2 _ _ (by omega) HL2' hfr2 (fun i' k' m a1 a2 a3 => by
              rcases Nat.lt_or_ge i' i with z | z
              · exact g i' k' m z a2 a3
              · have : i' = i := by omega
                subst this
                obtain ⟨j', l', b1, b2, b3, b4, b5⟩ := a3
                exact g2 k' m a2 (by omega) ⟨j', l', b1, b2, b3, b4, b5⟩)
          · exact absurd (by omega) c_19
        | succ d2 ih2 =>
          intro k h2 ro2 x4 hik hkd HL2 hfr2 g2
          have HL2' := HL2
          obtain ⟨w, hw⟩ := lc_ex (fc_2 c N sgn i k)
          have T := c_X3_firstFall (n := n) (i := i) (k := k) (sgn := sgn) (w := w) HL2' hrt hq hpl hik (by omega) hs (by rw [hcc]; exact hw)
          obtain ⟨H_this, H_this_place, H_this_total, H_this_owner, H_this_lineBegin, H_this_row, H_this_roots⟩ := HL2
          rcases hw with ⟨rfl, hw⟩ | ⟨m, hw1, rfl, hw2⟩
          · refine V_iload_n eX3_firstCrossed_14 rfl rfl ?_
            refine V_aload_n eX3_firstCrossed_15 rfl rfl ?_
            refine V_getf eX3_firstCrossed_16 H_this rfl ?_
            refine V_icmp_ge (tgt := 63) eX3_firstCrossed_19 rfl (by omega) (fun c_19 => ?_) (fun c_19 => ?_)
            · exact absurd c_19 (by omega)
            · refine V_aload_n eX3_firstCrossed_22 rfl rfl ?_
              refine V_iload_n eX3_firstCrossed_23 rfl rfl ?_
              refine V_iload_n eX3_firstCrossed_24 rfl rfl ?_
              refine V_iload_n eX3_firstCrossed_25 rfl rfl ?_
              refine V_cvg eX3_firstCrossed_26 (T) H_this rfl rfl (Nat.le_of_ble_eq_true rfl) ⟨rfl, rfl⟩ ⟨Nat.zero_le _, Nat.zero_le _⟩ (fun h3 ⟨⟨ro3, HL3⟩, hfr3⟩ => ?_)
              show eb_V _ _ 29 _ [.int (eb_I (-1))] _ _ _
              refine V_istore eX3_firstCrossed_29 (Nat.le_of_ble_eq_true rfl) rfl (eb_sS (eb_sS (eb_sS (eb_sS eb_s0)))) ?_
              refine V_iload eX3_firstCrossed_31 rfl ?_
              refine V_iconst eX3_firstCrossed_33 ?_
              refine V_icmp_eq (tgt := 57) eX3_firstCrossed_34 rfl (by omega) (fun c_34 => ?_) (fun c_34 => ?_)
              · refine V_iinc eX3_firstCrossed_57 rfl rfl (eb_sS (eb_sS (eb_sS eb_s0))) ?_
                refine V_goto (tgt := 14) eX3_firstCrossed_60 rfl ?_
                exact ih2 (k + 1) h3 ro3 _ (by omega) (by omega) HL3 (hfr2.tr hfr3) (fun k' m a1 a2 a3 => by
                  rcases Nat.lt_or_ge k' k with z | z
                  · exact g2 k' m a1 z a3
                  · have : k' = k := by omega
                    subst this
                    exact hw m a3)
              · exact absurd rfl c_34
          · obtain ⟨j, l, a1, a2, a3, a4, a5⟩ := hw1
            have hvv : v = ((((i + 1) * 41 + k + 1) * 1681 + (j + 1) * 41 + l + 1 : Nat) : Int) := lc_at hv ⟨i, k, j, l, hik, a1, a2, a3, a4, rfl⟩ (fun m' hm => by
              obtain ⟨i', k', j', l', b1, b2, b3, b4, b5, b6⟩ := hm
              rcases Nat.lt_trichotomy i' i with z | z | z
              · exact absurd ⟨j', l', b2, b3, b4, b5, rfl⟩ (g i' k' _ z b1)
              · subst z
                rcases Nat.lt_trichotomy k' k with y | y | y
                · exact absurd ⟨j', l', b2, b3, b4, b5, rfl⟩ (g2 k' _ b1 y)
                · subst y
                  have := hw2 _ ⟨j', l', b2, b3, b4, b5, rfl⟩
                  omega
                · omega
              · omega)
            refine V_iload_n eX3_firstCrossed_14 rfl rfl ?_
            refine V_aload_n eX3_firstCrossed_15 rfl rfl ?_
            refine V_getf eX3_firstCrossed_16 H_this rfl ?_
            refine V_icmp_ge (tgt := 63) eX3_firstCrossed_19 rfl (by omega) (fun c_19 => ?_) (fun c_19 => ?_)
            · exact absurd c_19 (by omega)
            · refine V_aload_n eX3_firstCrossed_22 rfl rfl ?_
              refine V_iload_n eX3_firstCrossed_23 rfl rfl ?_
              refine V_iload_n eX3_firstCrossed_24 rfl rfl ?_
              refine V_iload_n eX3_firstCrossed_25 rfl rfl ?_
              refine V_cvg eX3_firstCrossed_26 (T) H_this rfl rfl (Nat.le_of_ble_eq_true rfl) ⟨rfl, rfl⟩ ⟨Nat.zero_le _, Nat.zero_le _⟩ (fun h3 ⟨⟨ro3, HL3⟩, hfr3⟩ => ?_)
              show eb_V _ _ 29 _ [.int (eb_I (m : Int))] _ _ _
              refine V_istore eX3_firstCrossed_29 (Nat.le_of_ble_eq_true rfl) rfl (eb_sS (eb_sS (eb_sS (eb_sS eb_s0)))) ?_
              refine V_iload eX3_firstCrossed_31 rfl ?_
              refine V_iconst eX3_firstCrossed_33 ?_
              refine V_icmp_eq (tgt := 57) eX3_firstCrossed_34 rfl (by omega) (fun c_34 => ?_) (fun c_34 => ?_)
              · exact absurd c_34 (by omega)
              · refine V_iload_n eX3_firstCrossed_37 rfl rfl ?_
                refine V_iconst eX3_firstCrossed_38 ?_
                refine V_iadd eX3_firstCrossed_39 ?_
                refine V_bipush eX3_firstCrossed_40 (by decide) ?_
                refine V_imul eX3_firstCrossed_42 ?_
                refine V_iload_n eX3_firstCrossed_43 rfl rfl ?_
                refine V_iadd eX3_firstCrossed_44 ?_
                refine V_iconst eX3_firstCrossed_45 ?_
                refine V_iadd eX3_firstCrossed_46 ?_
                refine V_bipush eX3_firstCrossed_47 (by decide) ?_
                refine V_imul eX3_firstCrossed_49 ?_
                refine V_bipush eX3_firstCrossed_50 (by decide) ?_
                refine V_imul eX3_firstCrossed_52 ?_
                refine V_iload eX3_firstCrossed_53 rfl ?_
                refine V_iadd eX3_firstCrossed_55 ?_
                refine V_eqI (b := v) (by omega) ?_
                exact V_iret eX3_firstCrossed_56 ⟨Nat.zero_le _, Nat.zero_le _⟩ rfl (rfl) (⟨rfl, rfl, by rw [← hG]; exact ⟨⟨ro3, HL3⟩, hfr2.tr hfr3⟩⟩)
      have HL1' := HL1
      obtain ⟨H_this, H_this_place, H_this_total, H_this_owner, H_this_lineBegin, H_this_row, H_this_roots⟩ := HL1
      refine V_iload_n eX3_firstCrossed_2 rfl rfl ?_
      refine V_aload_n eX3_firstCrossed_3 rfl rfl ?_
      refine V_getf eX3_firstCrossed_4 H_this rfl ?_
      refine V_icmp_ge (tgt := 69) eX3_firstCrossed_7 rfl (by omega) (fun c_7 => ?_) (fun c_7 => ?_)
      · exact absurd c_7 (by omega)
      · refine V_iload_n eX3_firstCrossed_10 rfl rfl ?_
        refine V_iconst eX3_firstCrossed_11 ?_
        refine V_iadd eX3_firstCrossed_12 ?_
        refine V_istore_n eX3_firstCrossed_13 rfl (Nat.le_of_ble_eq_true rfl) rfl (eb_sS (eb_sS (eb_sS eb_s0))) ?_
        exact inner (max N (i + 1) - (i + 1)) (i + 1) h1 ro1 _ (by omega) (by omega) HL1' hfr (fun k' m a1 a2 => absurd a2 (by omega))
  refine V_iconst eX3_firstCrossed_0 ?_
  refine V_istore_n eX3_firstCrossed_1 rfl (Nat.le_of_ble_eq_true rfl) rfl (eb_sS (eb_sS eb_s0)) ?_
  exact l1 N 0 h ro _ _ (by omega) HL ly_fr.rf (fun i' k' m a1 => absurd a1 (by omega))
end LYF
