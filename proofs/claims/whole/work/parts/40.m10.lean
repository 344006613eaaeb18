theorem nw_add {ns nl : Nat → Int} {ws : List (List Nat)} {len c : Nat} (H : ∀ w (hw : w < ws.length), nw ns nl w ws[w]) (hi : rd_inv ws len) (h12 : len < 12) : ∀ w (hw : w < (rd_add ws len c).length), nw (eb_set ns ((rd_add ws len c).length - 1) ((len : Int) + 1)) (eb_set nl (12 * ((rd_add ws len c).length - 1) + len) (c : Int)) w (rd_add ws len c)[w] := by
  have hll : ∀ w (hw : w < ws.length), ws[w].length ≤ 12 := fun w hw => (hi.2.2.1 _ (List.getElem_mem hw)).1.2
  by_cases y : len = 0
  · subst y
    have e : rd_add ws 0 c = ws ++ [[c]] := by unfold rd_add; rw [if_pos rfl]
    rw [e]
    intro w hw
    have hL : (ws ++ [[c]]).length - 1 = ws.length := by simp
    rw [hL]
    by_cases z : w < ws.length
    · rw [List.getElem_append_left z]
      have h1 := H w z
      have h2 := hll w z
      exact ⟨by unfold eb_set; rw [if_neg (by omega)]; exact h1.1, fun k hk => by unfold eb_set; rw [if_neg (by omega)]; exact h1.2 k hk⟩
    · have : w = ws.length := by simp at hw; omega
      subst this
      have e2 : (ws ++ [[c]])[ws.length] = [c] := by simp
      rw [e2]
      refine ⟨by unfold eb_set; rw [if_pos rfl]; rfl, fun k hk => ?_⟩
      have : k = 0 := by simp at hk; omega
      subst this
      unfold eb_set
      rw [if_pos rfl]
      rfl
  · obtain ⟨p1, p2⟩ := hi.2.2.2 (by omega)
    have hW : ws.length - 1 < ws.length := by omega
    have eD : ws.getD (ws.length - 1) [] = ws[ws.length - 1] := by simp [hW]
    rw [eD] at p2
    have e : rd_add ws len c = ws.set (ws.length - 1) (ws[ws.length - 1] ++ [c]) := by unfold rd_add; rw [if_neg y, eD]
    rw [e]
    intro w hw
    have hL : (ws.set (ws.length - 1) (ws[ws.length - 1] ++ [c])).length - 1 = ws.length - 1 := by simp
    rw [hL]
    have hw2 : w < ws.length := by simp at hw; exact hw
    by_cases z : w = ws.length - 1
    · subst z
      have e2 : (ws.set (ws.length - 1) (ws[ws.length - 1] ++ [c]))[ws.length - 1] = ws[ws.length - 1] ++ [c] := by simp
      rw [e2]
      have h1 := H _ hW
      refine ⟨by unfold eb_set; rw [if_pos rfl, List.length_append, p2]; simp, fun k hk => ?_⟩
      rw [List.length_append, p2] at hk
      simp at hk
      unfold eb_set
      by_cases x : k = len
      · subst x
        rw [if_pos rfl]
        have : (ws[ws.length - 1] ++ [c])[k] = c := by simp [p2]
        rw [this]
      · have hk2 : k < ws[ws.length - 1].length := by omega
        rw [if_neg (by omega), List.getElem_append_left hk2]
        exact h1.2 k hk2
    · have e2 : (ws.set (ws.length - 1) (ws[ws.length - 1] ++ [c]))[w] = ws[w] := List.getElem_set_ne (by omega) _
      rw [e2]
      have h1 := H w hw2
      have h2 := hll w hw2
      exact ⟨by unfold eb_set; rw [if_neg (by omega)]; exact h1.1, fun k hk => by unfold eb_set; rw [if_neg (by omega)]; exact h1.2 k hk⟩
theorem rd_add_len {ws : List (List Nat)} {len c : Nat} : (rd_add ws len c).length = if len = 0 then ws.length + 1 else ws.length := by
  unfold rd_add
  split <;> simp
abbrev mrc (c : Nat → Int) (fa wc : Int) : Nat → Int := eb_set (eb_set (eb_set c 5 0) 6 fa) 9 wc
def mnw (h : eb_H) (c : Nat → Int) (R : Nat × Int × List (List Nat)) : Prop := ∃ (wc : Int) (ns nl : Nat → Int), h 67 = mo (mrc c R.2.1 wc) ∧ h 71 = eb_ia 40 ns ∧ h 72 = eb_ia 480 nl ∧ (R.1 = 0 → wc = (R.2.2.length : Int) ∧ ∀ w (hw : w < R.2.2.length), nw ns nl w R.2.2[w])
section M10
variable {n : Nat} {h : eb_H} {c : Nat → Int} {sf : Nat → Int} {T : TX}
theorem c_X10_wrongs {w k : Int} (H_this : h 67 = mo c) : eb_T mX10_wrongs [.ref 67, .int (eb_I w), .int (eb_I k)] n h (eb_G (some (.int (eb_I (-10 - w)))) n (fun h' => h' 67 = mo (eb_set c 6 k) ∧ ∀ k, k ≠ 67 → h' k = h k)) := by
  refine eb_T.of (by decide +kernel) (Nat.le_of_ble_eq_true rfl) ?_
  show eb_V _ _ 0 [.ref 67, .int (eb_I w), .int (eb_I k)] [] (n, 0, 0) h _
  refine V_aload_n eX10_wrongs_0 rfl rfl ?_
  refine V_iload_n eX10_wrongs_1 rfl rfl ?_
  refine V_putf eX10_wrongs_2 H_this eb_fitI (eb_sS (eb_sS (eb_sS (eb_sS (eb_sS (eb_sS eb_s0)))))) (Nat.le_of_ble_eq_true rfl) ?_
  refine V_bipush eX10_wrongs_5 (by decide) ?_
  refine V_iload_n eX10_wrongs_7 rfl rfl ?_
  refine V_isub eX10_wrongs_8 ?_
  exact V_iret eX10_wrongs_9 ⟨Nat.zero_le _, Nat.zero_le _⟩ rfl (rfl) (⟨rfl, rfl, eb_up_s, fun k z => eb_up_n z rfl⟩)
theorem c_X10_readWords {tf ns0 nl0 : Nat → Int} {cs : List Nat} (H_this : h 67 = mo c) (H_this_typed : h 70 = eb_ia 240 tf) (h5 : c 5 = (cs.length : Int)) (htf : ∀ k (hk : k < cs.length), tf k = (cs[k] : Int)) (hl : cs.length ≤ 240) (hcs : ∀ c ∈ cs, c ≤ 255) (H_ns : h 71 = eb_ia 40 ns0) (H_nl : h 72 = eb_ia 480 nl0) : eb_T mX10_readWords [.ref 67] n h (eb_G (some (.int (eb_I (if (rd cs 0 [] 0).1 = 0 then 0 else -10 - ((rd cs 0 [] 0).1 : Int))))) n (fun h' => mnw h' c (rd cs 0 [] 0) ∧ ∀ k, k ≠ 67 → k ≠ 71 → k ≠ 72 → h' k = h k)) := by
  refine eb_T.of (by decide +kernel) (Nat.le_of_ble_eq_true rfl) ?_
  show eb_V _ _ 0 [.ref 67, eb_no, eb_no, eb_no, eb_no] [] (n, 0, 0) h _
  generalize hR : rd cs 0 [] 0 = R
  have hRr := rd_ok cs 0 [] 0 rd_inv_0
  rw [hR] at hRr
  generalize hG : (fun (h' : eb_H) => mnw h' c R ∧ ∀ k, k ≠ 67 → k ≠ 71 → k ≠ 72 → h' k = h k) = G
  have loop : ∀ (d k : Nat) (h1 : eb_H) (ws : List (List Nat)) (len : Nat) (ns nl : Nat → Int) (x4 : Value), k + d = cs.length → rd_inv ws len → rd (cs.drop k) k ws len = R → h1 67 = mo (mrc c (-1) (ws.length : Int)) → h1 71 = eb_ia 40 ns → h1 72 = eb_ia 480 nl → (∀ w (hw : w < ws.length), nw ns nl w ws[w]) → (∀ k, k ≠ 67 → k ≠ 71 → k ≠ 72 → h1 k = h k) → eb_V mX10_readWords (fun _ _ _ => True) 24 [.ref 67, .int (eb_I (cs.length : Int)), .int (eb_I (len : Int)), .int (eb_I (k : Int)), x4] [] (n, 0, 0) h1 (eb_R mX10_readWords (eb_G (some (.int (eb_I (if R.1 = 0 then 0 else -10 - (R.1 : Int))))) n G)) := by
    intro d
    induction d with
    | zero =>
      intro k h1 ws len ns nl x4 hk hinv hrd H_this H_ns H_nl hnw hfr
      have : k = cs.length := by omega
      subst this
      rw [List.drop_length] at hrd
      have e1 : R.1 = 0 := by rw [← hrd]; rfl
      have e2 : R.2.1 = -1 := by rw [← hrd]; rfl
      have e3 : R.2.2 = ws := by rw [← hrd]; rfl
      rw [if_pos e1]
      refine V_iload_n eX10_readWords_24 rfl rfl ?_
      refine V_iload_n eX10_readWords_25 rfl rfl ?_
      refine V_icmp_ge (tgt := 161) eX10_readWords_26 rfl (by omega) (fun c_26 => ?_) (fun c_26 => ?_)
      · refine V_iconst eX10_readWords_161 ?_
        exact V_iret eX10_readWords_162 ⟨Nat.zero_le _, Nat.zero_le _⟩ rfl (rfl) (⟨rfl, rfl, by rw [← hG]; exact ⟨⟨_, ns, nl, by rw [e2]; exact H_this, H_ns, H_nl, fun _ => by rw [e3]; exact ⟨rfl, hnw⟩⟩, hfr⟩⟩)
      · exact absurd (by omega) c_26
    | succ d ih =>
      intro k h1 ws len ns nl x4 hk hinv hrd H_this H_ns H_nl hnw hfr
      have H_this_typed : h1 70 = eb_ia 240 tf := (hfr 70 (by omega) (by omega) (by omega)).trans H_this_typed
      have hkl : k < cs.length := by omega
      have hcr := hcs cs[k] (List.getElem_mem hkl)
      have e1 : tf ((k : Nat) : Int).toNat = (cs[k] : Int) := by rw [Int.toNat_natCast]; exact htf k hkl
      rw [List.drop_eq_getElem_cons hkl] at hrd
      simp only [rd] at hrd
      have hw40 := hinv.1
      have hl12 := hinv.2.1
      by_cases c1 : cs[k] = 32
      · have f0 : rd_fo cs[k] len ws.length = 0 := by unfold rd_fo; rw [if_pos c1]
        rw [if_neg (by omega), if_pos c1] at hrd
        refine V_iload_n eX10_readWords_24 rfl rfl ?_
        refine V_iload_n eX10_readWords_25 rfl rfl ?_
        refine V_icmp_ge (tgt := 161) eX10_readWords_26 rfl (by omega) (fun c_26 => ?_) (fun c_26 => ?_)
        · exact absurd c_26 (by omega)
        · refine V_aload_n eX10_readWords_29 rfl rfl ?_
          refine V_getf eX10_readWords_30 H_this rfl ?_
          refine V_iload_n eX10_readWords_33 rfl rfl ?_
          refine V_iald eX10_readWords_34 H_this_typed (by omega) ?_
          rw [e1]
          refine V_istore eX10_readWords_35 (Nat.le_of_ble_eq_true rfl) rfl (eb_sS (eb_sS (eb_sS (eb_sS eb_s0)))) ?_
          refine V_iload eX10_readWords_37 rfl ?_
          refine V_bipush eX10_readWords_39 (by decide) ?_
          refine V_icmp_ne (tgt := 49) eX10_readWords_41 rfl (by omega) (fun c_41 => ?_) (fun c_41 => ?_)
          · exact absurd (by omega) c_41
          · refine V_iconst eX10_readWords_44 ?_
            refine V_istore_n eX10_readWords_45 rfl (Nat.le_of_ble_eq_true rfl) rfl (eb_sS (eb_sS eb_s0)) ?_
            refine V_goto (tgt := 155) eX10_readWords_46 rfl ?_
            refine V_iinc eX10_readWords_155 rfl rfl (eb_sS (eb_sS (eb_sS eb_s0))) ?_
            refine V_goto (tgt := 24) eX10_readWords_158 rfl ?_
            exact ih (k + 1) h1 ws 0 ns nl _ (by omega) (rd_inv_b hinv) hrd H_this H_ns H_nl hnw hfr
      · by_cases c2 : cs[k] < 97 ∨ 122 < cs[k]
        · have f0 : rd_fo cs[k] len ws.length = 1 := by unfold rd_fo; rw [if_neg c1, if_pos c2]
          rw [if_pos (by omega)] at hrd
          have r1 : R.1 = 1 := by rw [← hrd]; exact f0
          have r2 : R.2.1 = (k : Int) := by rw [← hrd]
          rw [if_neg (by omega), r1]
          refine V_iload_n eX10_readWords_24 rfl rfl ?_
          refine V_iload_n eX10_readWords_25 rfl rfl ?_
          refine V_icmp_ge (tgt := 161) eX10_readWords_26 rfl (by omega) (fun c_26 => ?_) (fun c_26 => ?_)
          · exact absurd c_26 (by omega)
          · refine V_aload_n eX10_readWords_29 rfl rfl ?_
            refine V_getf eX10_readWords_30 H_this rfl ?_
            refine V_iload_n eX10_readWords_33 rfl rfl ?_
            refine V_iald eX10_readWords_34 H_this_typed (by omega) ?_
            rw [e1]
            refine V_istore eX10_readWords_35 (Nat.le_of_ble_eq_true rfl) rfl (eb_sS (eb_sS (eb_sS (eb_sS eb_s0)))) ?_
            refine V_iload eX10_readWords_37 rfl ?_
            refine V_bipush eX10_readWords_39 (by decide) ?_
            refine V_icmp_ne (tgt := 49) eX10_readWords_41 rfl (by omega) (fun c_41 => ?_) (fun c_41 => ?_)
            · refine V_iload eX10_readWords_49 rfl ?_
              refine V_i2lI eX10_readWords_51 (by omega) ?_
              refine V_ldc2 (a := 97) eX10_readWords_52 wd_811 (by decide) ?_
              refine V_ldc2 (a := 122) eX10_readWords_55 wd_812 (by decide) ?_
              refine V_csi eX10_readWords_58 (c_X10_in (by omega)) rfl rfl (Nat.le_of_ble_eq_true rfl) ⟨rfl, rfl⟩ ⟨Nat.zero_le _, Nat.zero_le _⟩ ?_
              rw [if_neg (by omega)]
              refine V_if_ne (tgt := 71) eX10_readWords_61 rfl (by omega) (fun c_61 => ?_) (fun c_61 => ?_)
              · exact absurd rfl c_61
              · refine V_aload_n eX10_readWords_64 rfl rfl ?_
                refine V_iconst eX10_readWords_65 ?_
                refine V_iload_n eX10_readWords_66 rfl rfl ?_
                refine V_cvg eX10_readWords_67 (c_X10_wrongs (n := n) (h := h1) (c := mrc c (-1) (ws.length : Int)) (w := 1) (k := (k : Int)) H_this) H_this rfl rfl (Nat.le_of_ble_eq_true rfl) ⟨rfl, rfl⟩ ⟨Nat.zero_le _, Nat.zero_le _⟩ (fun h2 ⟨D1, D2⟩ => ?_)
                show eb_V _ _ 70 _ [.int (eb_I (-10 - 1))] _ _ _
                exact V_iret eX10_readWords_70 ⟨Nat.zero_le _, Nat.zero_le _⟩ rfl (rfl) (⟨rfl, rfl, by rw [← hG]; exact ⟨⟨(ws.length : Int), ns, nl, by rw [r2]; exact D1, (D2 71 (by omega)).trans H_ns, (D2 72 (by omega)).trans H_nl, fun z => by omega⟩, fun k z1 z2 z3 => (D2 k z1).trans (hfr k z1 z2 z3)⟩⟩)
            · exact absurd c_41 (by omega)
        · by_cases c3 : len = 12
          · have f0 : rd_fo cs[k] len ws.length = 2 := by unfold rd_fo; rw [if_neg c1, if_neg c2, if_pos (by omega)]
            rw [if_pos (by omega)] at hrd
            have r1 : R.1 = 2 := by rw [← hrd]; exact f0
            have r2 : R.2.1 = (k : Int) := by rw [← hrd]
            rw [if_neg (by omega), r1]
            refine V_iload_n eX10_readWords_24 rfl rfl ?_
            refine V_iload_n eX10_readWords_25 rfl rfl ?_
            refine V_icmp_ge (tgt := 161) eX10_readWords_26 rfl (by omega) (fun c_26 => ?_) (fun c_26 => ?_)
            · exact absurd c_26 (by omega)
            · refine V_aload_n eX10_readWords_29 rfl rfl ?_
              refine V_getf eX10_readWords_30 H_this rfl ?_
              refine V_iload_n eX10_readWords_33 rfl rfl ?_
              refine V_iald eX10_readWords_34 H_this_typed (by omega) ?_
              rw [e1]
              refine V_istore eX10_readWords_35 (Nat.le_of_ble_eq_true rfl) rfl (eb_sS (eb_sS (eb_sS (eb_sS eb_s0)))) ?_
              refine V_iload eX10_readWords_37 rfl ?_
              refine V_bipush eX10_readWords_39 (by decide) ?_
              refine V_icmp_ne (tgt := 49) eX10_readWords_41 rfl (by omega) (fun c_41 => ?_) (fun c_41 => ?_)
              · refine V_iload eX10_readWords_49 rfl ?_
                refine V_i2lI eX10_readWords_51 (by omega) ?_
                refine V_ldc2 (a := 97) eX10_readWords_52 wd_811 (by decide) ?_
                refine V_ldc2 (a := 122) eX10_readWords_55 wd_812 (by decide) ?_
                refine V_csi eX10_readWords_58 (c_X10_in (by omega)) rfl rfl (Nat.le_of_ble_eq_true rfl) ⟨rfl, rfl⟩ ⟨Nat.zero_le _, Nat.zero_le _⟩ ?_
                rw [if_pos (by omega)]
                refine V_if_ne (tgt := 71) eX10_readWords_61 rfl (by omega) (fun c_61 => ?_) (fun c_61 => ?_)
                · refine V_iload_n eX10_readWords_71 rfl rfl ?_
                  refine V_bipush eX10_readWords_72 (by decide) ?_
                  refine V_icmp_ne (tgt := 84) eX10_readWords_74 rfl (by omega) (fun c_74 => ?_) (fun c_74 => ?_)
                  · exact absurd (by omega) c_74
                  · refine V_aload_n eX10_readWords_77 rfl rfl ?_
                    refine V_iconst eX10_readWords_78 ?_
                    refine V_iload_n eX10_readWords_79 rfl rfl ?_
                    refine V_cvg eX10_readWords_80 (c_X10_wrongs (n := n) (h := h1) (c := mrc c (-1) (ws.length : Int)) (w := 2) (k := (k : Int)) H_this) H_this rfl rfl (Nat.le_of_ble_eq_true rfl) ⟨rfl, rfl⟩ ⟨Nat.zero_le _, Nat.zero_le _⟩ (fun h2 ⟨D1, D2⟩ => ?_)
                    show eb_V _ _ 83 _ [.int (eb_I (-10 - 2))] _ _ _
                    exact V_iret eX10_readWords_83 ⟨Nat.zero_le _, Nat.zero_le _⟩ rfl (rfl) (⟨rfl, rfl, by rw [← hG]; exact ⟨⟨(ws.length : Int), ns, nl, by rw [r2]; exact D1, (D2 71 (by omega)).trans H_ns, (D2 72 (by omega)).trans H_nl, fun z => by omega⟩, fun k z1 z2 z3 => (D2 k z1).trans (hfr k z1 z2 z3)⟩⟩)
                · exact absurd c_61 (by decide)
              · exact absurd c_41 (by omega)
          · by_cases c4 : len = 0 ∧ ws.length = 40
            · have f0 : rd_fo cs[k] len ws.length = 3 := by unfold rd_fo; rw [if_neg c1, if_neg c2, if_neg (by omega), if_pos (by omega)]
              rw [if_pos (by omega)] at hrd
              have r1 : R.1 = 3 := by rw [← hrd]; exact f0
              have r2 : R.2.1 = (k : Int) := by rw [← hrd]
              rw [if_neg (by omega), r1]
              refine V_iload_n eX10_readWords_24 rfl rfl ?_
              refine V_iload_n eX10_readWords_25 rfl rfl ?_
              refine V_icmp_ge (tgt := 161) eX10_readWords_26 rfl (by omega) (fun c_26 => ?_) (fun c_26 => ?_)
              · exact absurd c_26 (by omega)
              · refine V_aload_n eX10_readWords_29 rfl rfl ?_
                refine V_getf eX10_readWords_30 H_this rfl ?_
                refine V_iload_n eX10_readWords_33 rfl rfl ?_
                refine V_iald eX10_readWords_34 H_this_typed (by omega) ?_
                rw [e1]
                refine V_istore eX10_readWords_35 (Nat.le_of_ble_eq_true rfl) rfl (eb_sS (eb_sS (eb_sS (eb_sS eb_s0)))) ?_
                refine V_iload eX10_readWords_37 rfl ?_
                refine V_bipush eX10_readWords_39 (by decide) ?_
                refine V_icmp_ne (tgt := 49) eX10_readWords_41 rfl (by omega) (fun c_41 => ?_) (fun c_41 => ?_)
                · refine V_iload eX10_readWords_49 rfl ?_
                  refine V_i2lI eX10_readWords_51 (by omega) ?_
                  refine V_ldc2 (a := 97) eX10_readWords_52 wd_811 (by decide) ?_
                  refine V_ldc2 (a := 122) eX10_readWords_55 wd_812 (by decide) ?_
                  refine V_csi eX10_readWords_58 (c_X10_in (by omega)) rfl rfl (Nat.le_of_ble_eq_true rfl) ⟨rfl, rfl⟩ ⟨Nat.zero_le _, Nat.zero_le _⟩ ?_
                  rw [if_pos (by omega)]
                  refine V_if_ne (tgt := 71) eX10_readWords_61 rfl (by omega) (fun c_61 => ?_) (fun c_61 => ?_)
                  · refine V_iload_n eX10_readWords_71 rfl rfl ?_
                    refine V_bipush eX10_readWords_72 (by decide) ?_
                    refine V_icmp_ne (tgt := 84) eX10_readWords_74 rfl (by omega) (fun c_74 => ?_) (fun c_74 => ?_)
                    · refine V_iload_n eX10_readWords_84 rfl rfl ?_
                      refine V_if_ne (tgt := 104) eX10_readWords_85 rfl (by omega) (fun c_85 => ?_) (fun c_85 => ?_)
                      · exact absurd (by omega) c_85
                      · refine V_aload_n eX10_readWords_88 rfl rfl ?_
                        refine V_getf eX10_readWords_89 H_this rfl ?_
                        show eb_V _ _ 92 _ [.int (eb_I (ws.length : Int))] _ _ _
                        refine V_bipush eX10_readWords_92 (by decide) ?_
                        refine V_icmp_ne (tgt := 104) eX10_readWords_94 rfl (by omega) (fun c_94 => ?_) (fun c_94 => ?_)
                        · exact absurd (by omega) c_94
                        · refine V_aload_n eX10_readWords_97 rfl rfl ?_
                          refine V_iconst eX10_readWords_98 ?_
                          refine V_iload_n eX10_readWords_99 rfl rfl ?_
                          refine V_cvg eX10_readWords_100 (c_X10_wrongs (n := n) (h := h1) (c := mrc c (-1) (ws.length : Int)) (w := 3) (k := (k : Int)) H_this) H_this rfl rfl (Nat.le_of_ble_eq_true rfl) ⟨rfl, rfl⟩ ⟨Nat.zero_le _, Nat.zero_le _⟩ (fun h2 ⟨D1, D2⟩ => ?_)
                          show eb_V _ _ 103 _ [.int (eb_I (-10 - 3))] _ _ _
                          exact V_iret eX10_readWords_103 ⟨Nat.zero_le _, Nat.zero_le _⟩ rfl (rfl) (⟨rfl, rfl, by rw [← hG]; exact ⟨⟨(ws.length : Int), ns, nl, by rw [r2]; exact D1, (D2 71 (by omega)).trans H_ns, (D2 72 (by omega)).trans H_nl, fun z => by omega⟩, fun k z1 z2 z3 => (D2 k z1).trans (hfr k z1 z2 z3)⟩⟩)
                    · exact absurd c_74 (by omega)
                  · exact absurd c_61 (by decide)
                · exact absurd c_41 (by omega)
            · have f0 : rd_fo cs[k] len ws.length = 0 := by unfold rd_fo; rw [if_neg c1, if_neg c2, if_neg (by omega), if_neg (by omega)]
              rw [if_neg (by omega), if_neg c1] at hrd
              obtain ⟨v1, v2, v3, v4⟩ := rd_inv_add hinv f0 c1
              have A := nw_add (c := cs[k]) hnw hinv v3
              have L : (rd_add ws len cs[k]).length = if len = 0 then ws.length + 1 else ws.length := rd_add_len
              have v5 := v1.1
              have v6 : 0 < (rd_add ws len cs[k]).length := by
                rw [L]
                split
                · omega
                · exact (hinv.2.2.2 (by omega)).1
              have tl : ∀ (v : Int), (ws.length : Int) + v = ((rd_add ws len cs[k]).length : Int) → eb_V mX10_readWords (fun _ _ _ => True) 118 [.ref 67, .int (eb_I (cs.length : Int)), .int (eb_I (len : Int)), .int (eb_I (k : Int)), .int (eb_I (cs[k] : Int))] [.int (eb_I v), .int (eb_I (ws.length : Int)), .ref 67] (n, 0, 0) h1 (eb_R mX10_readWords (eb_G (some (.int (eb_I (if R.1 = 0 then 0 else -10 - (R.1 : Int))))) n G)) := by
                intro v hv
                have H_this_newLetters := H_nl
                have H_this_newSizes := H_ns
                have n1 : ((12 : Int) * (((rd_add ws len cs[k]).length : Int) - 1) + (len : Int)).toNat = 12 * ((rd_add ws len cs[k]).length - 1) + len := by omega
                have n2 : (((rd_add ws len cs[k]).length : Int) - 1).toNat = (rd_add ws len cs[k]).length - 1 := by omega
                refine V_iadd eX10_readWords_118 ?_
                rw [hv]
                refine V_putf eX10_readWords_119 H_this eb_fitI (eb_sS (eb_sS (eb_sS (eb_sS (eb_sS (eb_sS (eb_sS (eb_sS (eb_sS eb_s0))))))))) (Nat.le_of_ble_eq_true rfl) ?_
                show eb_V _ _ 122 _ _ _ (eb_up _ 67 (mo (mrc c (-1) ((rd_add ws len cs[k]).length : Int)))) _
                refine V_aload_n eX10_readWords_122 rfl rfl ?_
                refine V_getf eX10_readWords_123 eb_up_s rfl ?_
                refine V_bipush eX10_readWords_126 (by decide) ?_
                refine V_aload_n eX10_readWords_128 rfl rfl ?_
                refine V_getf eX10_readWords_129 eb_up_s rfl ?_
                show eb_V _ _ 132 _ [.int (eb_I ((rd_add ws len cs[k]).length : Int)), _, _] _ _ _
                refine V_iconst eX10_readWords_132 ?_
                refine V_isub eX10_readWords_133 ?_
                refine V_imul eX10_readWords_134 ?_
                refine V_iload_n eX10_readWords_135 rfl rfl ?_
                refine V_iadd eX10_readWords_136 ?_
                refine V_iload eX10_readWords_137 rfl ?_
                refine V_iast eX10_readWords_139 (eb_up_n (by omega) H_this_newLetters) (by omega) ?_
                rw [n1]
                refine V_iinc eX10_readWords_140 rfl rfl (eb_sS (eb_sS eb_s0)) ?_
                refine V_aload_n eX10_readWords_143 rfl rfl ?_
                refine V_getf eX10_readWords_144 (eb_up_n (by omega) eb_up_s) rfl ?_
                refine V_aload_n eX10_readWords_147 rfl rfl ?_
                refine V_getf eX10_readWords_148 (eb_up_n (by omega) eb_up_s) rfl ?_
                show eb_V _ _ 151 _ [.int (eb_I ((rd_add ws len cs[k]).length : Int)), _] _ _ _
                refine V_iconst eX10_readWords_151 ?_
                refine V_isub eX10_readWords_152 ?_
                refine V_iload_n eX10_readWords_153 rfl rfl ?_
                refine V_iast eX10_readWords_154 (eb_up_n (by omega) (eb_up_n (by omega) H_this_newSizes)) (by omega) ?_
                rw [n2]
                refine V_iinc eX10_readWords_155 rfl rfl (eb_sS (eb_sS (eb_sS eb_s0))) ?_
                refine V_goto (tgt := 24) eX10_readWords_158 rfl ?_
                exact ih (k + 1) _ (rd_add ws len cs[k]) (len + 1) _ _ _ (by omega) v1 hrd (eb_up_n (by omega) (eb_up_n (by omega) eb_up_s)) eb_up_s (eb_up_n (by omega) eb_up_s) A (fun k z1 z2 z3 => eb_up_n z2 (eb_up_n z3 (eb_up_n z1 (hfr k z1 z2 z3))))
              by_cases c5 : len = 0
              · rw [if_pos c5] at L
                refine V_iload_n eX10_readWords_24 rfl rfl ?_
                refine V_iload_n eX10_readWords_25 rfl rfl ?_
                refine V_icmp_ge (tgt := 161) eX10_readWords_26 rfl (by omega) (fun c_26 => ?_) (fun c_26 => ?_)
                · exact absurd c_26 (by omega)
                · refine V_aload_n eX10_readWords_29 rfl rfl ?_
                  refine V_getf eX10_readWords_30 H_this rfl ?_
                  refine V_iload_n eX10_readWords_33 rfl rfl ?_
                  refine V_iald eX10_readWords_34 H_this_typed (by omega) ?_
                  rw [e1]
                  refine V_istore eX10_readWords_35 (Nat.le_of_ble_eq_true rfl) rfl (eb_sS (eb_sS (eb_sS (eb_sS eb_s0)))) ?_
                  refine V_iload eX10_readWords_37 rfl ?_
                  refine V_bipush eX10_readWords_39 (by decide) ?_
                  refine V_icmp_ne (tgt := 49) eX10_readWords_41 rfl (by omega) (fun c_41 => ?_) (fun c_41 => ?_)
                  · refine V_iload eX10_readWords_49 rfl ?_
                    refine V_i2lI eX10_readWords_51 (by omega) ?_
                    refine V_ldc2 (a := 97) eX10_readWords_52 wd_811 (by decide) ?_
                    refine V_ldc2 (a := 122) eX10_readWords_55 wd_812 (by decide) ?_
                    refine V_csi eX10_readWords_58 (c_X10_in (by omega)) rfl rfl (Nat.le_of_ble_eq_true rfl) ⟨rfl, rfl⟩ ⟨Nat.zero_le _, Nat.zero_le _⟩ ?_
                    rw [if_pos (by omega)]
                    refine V_if_ne (tgt := 71) eX10_readWords_61 rfl (by omega) (fun c_61 => ?_) (fun c_61 => ?_)
                    · refine V_iload_n eX10_readWords_71 rfl rfl ?_
                      refine V_bipush eX10_readWords_72 (by decide) ?_
                      refine V_icmp_ne (tgt := 84) eX10_readWords_74 rfl (by omega) (fun c_74 => ?_) (fun c_74 => ?_)
                      · refine V_iload_n eX10_readWords_84 rfl rfl ?_
                        refine V_if_ne (tgt := 104) eX10_readWords_85 rfl (by omega) (fun c_85 => ?_) (fun c_85 => ?_)
                        · exact absurd (by omega) c_85
                        · refine V_aload_n eX10_readWords_88 rfl rfl ?_
                          refine V_getf eX10_readWords_89 H_this rfl ?_
                          show eb_V _ _ 92 _ [.int (eb_I (ws.length : Int))] _ _ _
                          refine V_bipush eX10_readWords_92 (by decide) ?_
                          refine V_icmp_ne (tgt := 104) eX10_readWords_94 rfl (by omega) (fun c_94 => ?_) (fun c_94 => ?_)
                          · refine V_aload_n eX10_readWords_104 rfl rfl ?_
                            refine V_dup eX10_readWords_105 rfl ?_
                            refine V_getf eX10_readWords_106 H_this rfl ?_
                            show eb_V _ _ 109 _ [.int (eb_I (ws.length : Int)), _] _ _ _
                            refine V_iload_n eX10_readWords_109 rfl rfl ?_
                            refine V_if_ne (tgt := 117) eX10_readWords_110 rfl (by omega) (fun c_110 => ?_) (fun c_110 => ?_)
                            · exact absurd (by omega) c_110
                            · refine V_iconst eX10_readWords_113 ?_
                              refine V_goto (tgt := 118) eX10_readWords_114 rfl ?_
                              exact tl _ (by omega)
                          · exact absurd c_94 (by omega)
                      · exact absurd c_74 (by omega)
                    · exact absurd c_61 (by decide)
                  · exact absurd c_41 (by omega)
              · rw [if_neg c5] at L
                refine V_iload_n eX10_readWords_24 rfl rfl ?_
                refine V_iload_n eX10_readWords_25 rfl rfl ?_
                refine V_icmp_ge (tgt := 161) eX10_readWords_26 rfl (by omega) (fun c_26 => ?_) (fun c_26 => ?_)
                · exact absurd c_26 (by omega)
                · refine V_aload_n eX10_readWords_29 rfl rfl ?_
                  refine V_getf eX10_readWords_30 H_this rfl ?_
                  refine V_iload_n eX10_readWords_33 rfl rfl ?_
                  refine V_iald eX10_readWords_34 H_this_typed (by omega) ?_
                  rw [e1]
                  refine V_istore eX10_readWords_35 (Nat.le_of_ble_eq_true rfl) rfl (eb_sS (eb_sS (eb_sS (eb_sS eb_s0)))) ?_
                  refine V_iload eX10_readWords_37 rfl ?_
                  refine V_bipush eX10_readWords_39 (by decide) ?_
                  refine V_icmp_ne (tgt := 49) eX10_readWords_41 rfl (by omega) (fun c_41 => ?_) (fun c_41 => ?_)
                  · refine V_iload eX10_readWords_49 rfl ?_
                    refine V_i2lI eX10_readWords_51 (by omega) ?_
                    refine V_ldc2 (a := 97) eX10_readWords_52 wd_811 (by decide) ?_
                    refine V_ldc2 (a := 122) eX10_readWords_55 wd_812 (by decide) ?_
                    refine V_csi eX10_readWords_58 (c_X10_in (by omega)) rfl rfl (Nat.le_of_ble_eq_true rfl) ⟨rfl, rfl⟩ ⟨Nat.zero_le _, Nat.zero_le _⟩ ?_
                    rw [if_pos (by omega)]
                    refine V_if_ne (tgt := 71) eX10_readWords_61 rfl (by omega) (fun c_61 => ?_) (fun c_61 => ?_)
                    · refine V_iload_n eX10_readWords_71 rfl rfl ?_
                      refine V_bipush eX10_readWords_72 (by decide) ?_
                      refine V_icmp_ne (tgt := 84) eX10_readWords_74 rfl (by omega) (fun c_74 => ?_) (fun c_74 => ?_)
                      · refine V_iload_n eX10_readWords_84 rfl rfl ?_
                        refine V_if_ne (tgt := 104) eX10_readWords_85 rfl (by omega) (fun c_85 => ?_) (fun c_85 => ?_)
                        · refine V_aload_n eX10_readWords_104 rfl rfl ?_
                          refine V_dup eX10_readWords_105 rfl ?_
                          refine V_getf eX10_readWords_106 H_this rfl ?_
                          show eb_V _ _ 109 _ [.int (eb_I (ws.length : Int)), _] _ _ _
                          refine V_iload_n eX10_readWords_109 rfl rfl ?_
                          refine V_if_ne (tgt := 117) eX10_readWords_110 rfl (by omega) (fun c_110 => ?_) (fun c_110 => ?_)
                          · refine V_iconst eX10_readWords_117 ?_
                            exact tl _ (by omega)
                          · exact absurd c_110 (by omega)
                        · exact absurd c_85 (by omega)
                      · exact absurd c_74 (by omega)
                    · exact absurd c_61 (by decide)
                  · exact absurd c_41 (by omega)
  refine V_aload_n eX10_readWords_0 rfl rfl ?_
  refine V_getf eX10_readWords_1 H_this rfl ?_
  rw [h5]
  refine V_istore_n eX10_readWords_4 rfl (Nat.le_of_ble_eq_true rfl) rfl (eb_sS eb_s0) ?_
  refine V_aload_n eX10_readWords_5 rfl rfl ?_
  refine V_iconst eX10_readWords_6 ?_
  refine V_putf eX10_readWords_7 H_this eb_fitI (eb_sS (eb_sS (eb_sS (eb_sS (eb_sS eb_s0))))) (Nat.le_of_ble_eq_true rfl) ?_
  show eb_V _ _ 10 _ _ _ (eb_up _ 67 (mo (eb_set c 5 0))) _
  refine V_aload_n eX10_readWords_10 rfl rfl ?_
  refine V_iconst eX10_readWords_11 ?_
  refine V_putf eX10_readWords_12 eb_up_s eb_fitI (eb_sS (eb_sS (eb_sS (eb_sS (eb_sS (eb_sS (eb_sS (eb_sS (eb_sS eb_s0))))))))) (Nat.le_of_ble_eq_true rfl) ?_
  show eb_V _ _ 15 _ _ _ (eb_up _ 67 (mo (eb_set (eb_set c 5 0) 9 0))) _
  refine V_aload_n eX10_readWords_15 rfl rfl ?_
  refine V_iconst eX10_readWords_16 ?_
  refine V_putf eX10_readWords_17 eb_up_s eb_fitI (eb_sS (eb_sS (eb_sS (eb_sS (eb_sS (eb_sS eb_s0)))))) (Nat.le_of_ble_eq_true rfl) ?_
  show eb_V _ _ 20 _ _ _ (eb_up _ 67 (mo (mrc c (-1) 0))) _
  refine V_iconst eX10_readWords_20 ?_
  refine V_istore_n eX10_readWords_21 rfl (Nat.le_of_ble_eq_true rfl) rfl (eb_sS (eb_sS eb_s0)) ?_
  refine V_iconst eX10_readWords_22 ?_
  refine V_istore_n eX10_readWords_23 rfl (Nat.le_of_ble_eq_true rfl) rfl (eb_sS (eb_sS (eb_sS eb_s0))) ?_
  exact loop cs.length 0 _ [] 0 ns0 nl0 _ (by omega) rd_inv_0 hR eb_up_s (eb_up_n (by omega) (eb_up_n (by omega) (eb_up_n (by omega) H_ns))) (eb_up_n (by omega) (eb_up_n (by omega) (eb_up_n (by omega) H_nl))) (fun w hw => absurd hw (by simp)) (fun k z1 z2 z3 => eb_up_n z1 (eb_up_n z1 (eb_up_n z1 rfl)))
theorem c_X10_readOne {tf ns0 nl0 : Nat → Int} {cs : List Nat} (H_this : h 67 = mo c) (H_this_typed : h 70 = eb_ia 240 tf) (h5 : c 5 = (cs.length : Int)) (htf : ∀ k (hk : k < cs.length), tf k = (cs[k] : Int)) (hl : cs.length ≤ 240) (hcs : ∀ c ∈ cs, c ≤ 255) (H_ns : h 71 = eb_ia 40 ns0) (H_nl : h 72 = eb_ia 480 nl0) : eb_T mX10_readOne [.ref 67] n h (eb_G (some (.int (eb_I (rd1 (rd cs 0 [] 0))))) n (fun h' => mnw h' c (rd cs 0 [] 0) ∧ ∀ k, k ≠ 67 → k ≠ 71 → k ≠ 72 → h' k = h k)) := by
  refine eb_T.of (by decide +kernel) (Nat.le_of_ble_eq_true rfl) ?_
  show eb_V _ _ 0 [.ref 67, eb_no] [] (n, 0, 0) h _
  have TR := c_X10_readWords (n := n) H_this H_this_typed h5 htf hl hcs H_ns H_nl
  have hRr := rd_ok cs 0 [] 0 rd_inv_0
  generalize rd cs 0 [] 0 = R at *
  have r3 := hRr.2.1
  have r4 := hRr.1.1
  by_cases y : R.1 = 0
  · rw [if_pos y] at TR
    by_cases y2 : R.2.2.length = 1
    · have e : rd1 R = 0 := by unfold rd1; rw [if_neg (by omega), if_pos y2]
      rw [e]
      refine V_aload_n eX10_readOne_0 rfl rfl ?_
      refine V_cvg eX10_readOne_1 (TR) H_this rfl rfl (Nat.le_of_ble_eq_true rfl) ⟨rfl, rfl⟩ ⟨Nat.zero_le _, Nat.zero_le _⟩ (fun h1 ⟨D1, D2⟩ => ?_)
      show eb_V _ _ 4 _ [.int (eb_I 0)] _ _ _
      obtain ⟨wc, ns, nl, H_this, E2, E3, E4⟩ := id D1
      have ewc := (E4 y).1
      refine V_istore_n eX10_readOne_4 rfl (Nat.le_of_ble_eq_true rfl) rfl (eb_sS eb_s0) ?_
      refine V_iload_n eX10_readOne_5 rfl rfl ?_
      refine V_if_ge (tgt := 13) eX10_readOne_6 rfl (by omega) (fun c_6 => ?_) (fun c_6 => ?_)
      · refine V_aload_n eX10_readOne_13 rfl rfl ?_
        refine V_getf eX10_readOne_14 H_this rfl ?_
        show eb_V _ _ 17 _ [.int (eb_I wc)] _ _ _
        refine V_iconst eX10_readOne_17 ?_
        refine V_icmp_ne (tgt := 25) eX10_readOne_18 rfl (by omega) (fun c_18 => ?_) (fun c_18 => ?_)
        · exact absurd (by omega) c_18
        · refine V_iconst eX10_readOne_21 ?_
          refine V_goto (tgt := 27) eX10_readOne_22 rfl ?_
          exact V_iret eX10_readOne_27 ⟨Nat.zero_le _, Nat.zero_le _⟩ rfl (rfl) (⟨rfl, rfl, D1, D2⟩)
      · exact absurd (by decide) c_6
    · have e : rd1 R = -1000000003 := by unfold rd1; rw [if_neg (by omega), if_neg y2]
      rw [e]
      refine V_aload_n eX10_readOne_0 rfl rfl ?_
      refine V_cvg eX10_readOne_1 (TR) H_this rfl rfl (Nat.le_of_ble_eq_true rfl) ⟨rfl, rfl⟩ ⟨Nat.zero_le _, Nat.zero_le _⟩ (fun h1 ⟨D1, D2⟩ => ?_)
      show eb_V _ _ 4 _ [.int (eb_I 0)] _ _ _
      obtain ⟨wc, ns, nl, H_this, E2, E3, E4⟩ := id D1
      have ewc := (E4 y).1
      refine V_istore_n eX10_readOne_4 rfl (Nat.le_of_ble_eq_true rfl) rfl (eb_sS eb_s0) ?_
      refine V_iload_n eX10_readOne_5 rfl rfl ?_
      refine V_if_ge (tgt := 13) eX10_readOne_6 rfl (by omega) (fun c_6 => ?_) (fun c_6 => ?_)
      · refine V_aload_n eX10_readOne_13 rfl rfl ?_
        refine V_getf eX10_readOne_14 H_this rfl ?_
        show eb_V _ _ 17 _ [.int (eb_I wc)] _ _ _
        refine V_iconst eX10_readOne_17 ?_
        refine V_icmp_ne (tgt := 25) eX10_readOne_18 rfl (by omega) (fun c_18 => ?_) (fun c_18 => ?_)
        · refine V_ldc (a := -1000000003) eX10_readOne_25 wd_930 (by decide) ?_
          exact V_iret eX10_readOne_27 ⟨Nat.zero_le _, Nat.zero_le _⟩ rfl (rfl) (⟨rfl, rfl, D1, D2⟩)
        · exact absurd c_18 (by omega)
      · exact absurd (by decide) c_6
  · rw [if_neg y] at TR
    have e : rd1 R = -10 - (R.1 : Int) := by unfold rd1; rw [if_pos y]
    rw [e]
    refine V_aload_n eX10_readOne_0 rfl rfl ?_
    refine V_cvg eX10_readOne_1 (TR) H_this rfl rfl (Nat.le_of_ble_eq_true rfl) ⟨rfl, rfl⟩ ⟨Nat.zero_le _, Nat.zero_le _⟩ (fun h1 ⟨D1, D2⟩ => ?_)
    show eb_V _ _ 4 _ [.int (eb_I (-10 - (R.1 : Int)))] _ _ _
    refine V_istore_n eX10_readOne_4 rfl (Nat.le_of_ble_eq_true rfl) rfl (eb_sS eb_s0) ?_
    refine V_iload_n eX10_readOne_5 rfl rfl ?_
    refine V_if_ge (tgt := 13) eX10_readOne_6 rfl (by omega) (fun c_6 => ?_) (fun c_6 => ?_)
    · exact absurd c_6 (by omega)
    · refine V_iload_n eX10_readOne_9 rfl rfl ?_
      refine V_goto (tgt := 27) eX10_readOne_10 rfl ?_
      exact V_iret eX10_readOne_27 ⟨Nat.zero_le _, Nat.zero_le _⟩ rfl (rfl) (⟨rfl, rfl, D1, D2⟩)
theorem dr_and {s : Int} (hs : 0 ≤ s ∧ s ≤ 2147483647) : eb_J (s * 1103515245 + 12345) &&& eb_J 2147483647 = eb_J (dr_s s) := by
  obtain ⟨a, ha⟩ := Int.eq_ofNat_of_zero_le hs.1
  subst ha
  have h1 := eb_and (a := a * 1103515245 + 12345) (b := 2147483647) (by omega) (by omega)
  rw [show (2147483647 : Nat) = 2 ^ 31 - 1 from rfl, Nat.and_two_pow_sub_one_eq_mod] at h1
  unfold dr_s
  rw [show ((a : Int) * 1103515245 + 12345) = ((a * 1103515245 + 12345 : Nat) : Int) by omega]
  exact h1
theorem c_X10_drawOf {m s : Int} (H_this : h 67 = mo c) (h3 : c 3 = s) (hs : 0 ≤ s ∧ s ≤ 2147483647) (hm : 0 < m ∧ m ≤ 2147483647) : eb_T mX10_drawOf [.ref 67, .int (eb_I m)] n h (eb_X (some (.int (eb_I (dr_v (dr_s s) m)))) n (eb_up h 67 (mo (eb_set c 3 (dr_s s))))) := by
  refine eb_T.of (by decide +kernel) (Nat.le_of_ble_eq_true rfl) ?_
  show eb_V _ _ 0 [.ref 67, .int (eb_I m)] [] (n, 0, 0) h _
  have r := dr_s_r s
  refine V_aload_n eX10_drawOf_0 rfl rfl ?_
  refine V_aload_n eX10_drawOf_1 rfl rfl ?_
  refine V_getf eX10_drawOf_2 H_this rfl ?_
  rw [h3]
  refine V_i2lI eX10_drawOf_5 (by omega) ?_
  refine V_ldc2 (a := 1103515245) eX10_drawOf_6 wd_980 (by decide) ?_
  refine V_lmul eX10_drawOf_9 ?_
  refine V_ldc2 (a := 12345) eX10_drawOf_10 wd_981 (by decide) ?_
  refine V_ladd eX10_drawOf_13 ?_
  refine V_ldc2 (a := 2147483647) eX10_drawOf_14 wd_982 (by decide) ?_
  refine V_land eX10_drawOf_17 (dr_and hs) ?_
  refine V_l2iI eX10_drawOf_18 ?_
  refine V_putf eX10_drawOf_19 H_this eb_fitI (eb_sS (eb_sS (eb_sS eb_s0))) (Nat.le_of_ble_eq_true rfl) ?_
  show eb_V _ _ 22 _ _ _ (eb_up _ 67 (mo (eb_set c 3 (dr_s s)))) _
  refine V_aload_n eX10_drawOf_22 rfl rfl ?_
  refine V_getf eX10_drawOf_23 eb_up_s rfl ?_
  show eb_V _ _ 26 _ [.int (eb_I (dr_s s))] _ _ _
  refine V_ldc (a := 65536) eX10_drawOf_26 wd_983 (by decide) ?_
  refine V_idivI eX10_drawOf_28 (by omega) (by omega) ?_
  refine V_iload_n eX10_drawOf_29 rfl rfl ?_
  refine V_iremI eX10_drawOf_30 (by omega) (by omega) ?_
  exact V_iret eX10_drawOf_31 ⟨Nat.zero_le _, Nat.zero_le _⟩ rfl (rfl) (⟨rfl, rfl, rfl⟩)
end M10
