/-! letters: their widths; words as longs -/
def sp_lw (c : Int) : Int := if c = 102 ∨ c = 105 ∨ c = 106 ∨ c = 108 ∨ c = 114 ∨ c = 116 then 1 else if c = 109 ∨ c = 119 then 3 else 2
theorem c_X5_letterWidth {n : Nat} {h : eb_H} {c : Int} (hc : -2147483648 ≤ c ∧ c ≤ 2147483647) : eb_T mX5_letterWidth [.int (eb_I c)] n h (eb_X (some (.int (eb_I (sp_lw c)))) n h) := by
  refine eb_T.of (by decide +kernel) (Nat.le_of_ble_eq_true rfl) ?_
  show eb_V _ _ 0 [.int (eb_I c)] [] (n, 0, 0) h _
  by_cases h1 : c < 102 ∨ 119 < c
  · have e1 : sp_lw c = 2 := by unfold sp_lw; rw [if_neg (by omega), if_neg (by omega)]
    rw [e1]
    refine V_iload_n eX5_letterWidth_0 rfl rfl ?_
    refine V_tswOut (tgt := 92) eX5_letterWidth_1 (by omega) (h1) rfl ?_
    refine V_iconst eX5_letterWidth_92 ?_
    exact V_iret eX5_letterWidth_93 ⟨Nat.zero_le _, Nat.zero_le _⟩ rfl (rfl) (⟨rfl, rfl, rfl⟩)
  · obtain rfl | rfl | rfl | rfl | rfl | rfl | rfl | rfl | rfl | rfl | rfl | rfl | rfl | rfl | rfl | rfl | rfl | rfl : c = 102 ∨ c = 103 ∨ c = 104 ∨ c = 105 ∨ c = 106 ∨ c = 107 ∨ c = 108 ∨ c = 109 ∨ c = 110 ∨ c = 111 ∨ c = 112 ∨ c = 113 ∨ c = 114 ∨ c = 115 ∨ c = 116 ∨ c = 117 ∨ c = 118 ∨ c = 119 := by omega
    · refine V_iload_n eX5_letterWidth_0 rfl rfl ?_
      refine V_tswIn (tgt := 88) (off := 87) eX5_letterWidth_1 (by omega) (by omega) rfl rfl ?_
      refine V_iconst eX5_letterWidth_88 ?_
      exact V_iret eX5_letterWidth_89 ⟨Nat.zero_le _, Nat.zero_le _⟩ rfl (rfl) (⟨rfl, rfl, rfl⟩)
    · refine V_iload_n eX5_letterWidth_0 rfl rfl ?_
      refine V_tswIn (tgt := 92) (off := 91) eX5_letterWidth_1 (by omega) (by omega) rfl rfl ?_
      refine V_iconst eX5_letterWidth_92 ?_
      exact V_iret eX5_letterWidth_93 ⟨Nat.zero_le _, Nat.zero_le _⟩ rfl (rfl) (⟨rfl, rfl, rfl⟩)
    · refine V_iload_n eX5_letterWidth_0 rfl rfl ?_
      refine V_tswIn (tgt := 92) (off := 91) eX5_letterWidth_1 (by omega) (by omega) rfl rfl ?_
      refine V_iconst eX5_letterWidth_92 ?_
      exact V_iret eX5_letterWidth_93 ⟨Nat.zero_le _, Nat.zero_le _⟩ rfl (rfl) (⟨rfl, rfl, rfl⟩)
    · refine V_iload_n eX5_letterWidth_0 rfl rfl ?_
      refine V_tswIn (tgt := 88) (off := 87) eX5_letterWidth_1 (by omega) (by omega) rfl rfl ?_
      refine V_iconst eX5_letterWidth_88 ?_
      exact V_iret eX5_letterWidth_89 ⟨Nat.zero_le _, Nat.zero_le _⟩ rfl (rfl) (⟨rfl, rfl, rfl⟩)
    · refine V_iload_n eX5_letterWidth_0 rfl rfl ?_
      refine V_tswIn (tgt := 88) (off := 87) eX5_letterWidth_1 (by omega) (by omega) rfl rfl ?_
      refine V_iconst eX5_letterWidth_88 ?_
      exact V_iret eX5_letterWidth_89 ⟨Nat.zero_le _, Nat.zero_le _⟩ rfl (rfl) (⟨rfl, rfl, rfl⟩)
    · refine V_iload_n eX5_letterWidth_0 rfl rfl ?_
      refine V_tswIn (tgt := 92) (off := 91) eX5_letterWidth_1 (by omega) (by omega) rfl rfl ?_
      refine V_iconst eX5_letterWidth_92 ?_
      exact V_iret eX5_letterWidth_93 ⟨Nat.zero_le _, Nat.zero_le _⟩ rfl (rfl) (⟨rfl, rfl, rfl⟩)
    · refine V_iload_n eX5_letterWidth_0 rfl rfl ?_
      refine V_tswIn (tgt := 88) (off := 87) eX5_letterWidth_1 (by omega) (by omega) rfl rfl ?_
      refine V_iconst eX5_letterWidth_88 ?_
      exact V_iret eX5_letterWidth_89 ⟨Nat.zero_le _, Nat.zero_le _⟩ rfl (rfl) (⟨rfl, rfl, rfl⟩)
    · refine V_iload_n eX5_letterWidth_0 rfl rfl ?_
      refine V_tswIn (tgt := 90) (off := 89) eX5_letterWidth_1 (by omega) (by omega) rfl rfl ?_
      refine V_iconst eX5_letterWidth_90 ?_
      exact V_iret eX5_letterWidth_91 ⟨Nat.zero_le _, Nat.zero_le _⟩ rfl (rfl) (⟨rfl, rfl, rfl⟩)
    · refine V_iload_n eX5_letterWidth_0 rfl rfl ?_
      refine V_tswIn (tgt := 92) (off := 91) eX5_letterWidth_1 (by omega) (by omega) rfl rfl ?_
      refine V_iconst eX5_letterWidth_92 ?_
      exact V_iret eX5_letterWidth_93 ⟨Nat.zero_le _, Nat.zero_le _⟩ rfl (rfl) (⟨rfl, rfl, rfl⟩)
    · refine V_iload_n eX5_letterWidth_0 rfl rfl ?_
      refine V_tswIn (tgt := 92) (off := 91) eX5_letterWidth_1 (by omega) (by omega) rfl rfl ?_
      refine V_iconst eX5_letterWidth_92 ?_
      exact V_iret eX5_letterWidth_93 ⟨Nat.zero_le _, Nat.zero_le _⟩ rfl (rfl) (⟨rfl, rfl, rfl⟩)
    · refine V_iload_n eX5_letterWidth_0 rfl rfl ?_
      refine V_tswIn (tgt := 92) (off := 91) eX5_letterWidth_1 (by omega) (by omega) rfl rfl ?_
      refine V_iconst eX5_letterWidth_92 ?_
      exact V_iret eX5_letterWidth_93 ⟨Nat.zero_le _, Nat.zero_le _⟩ rfl (rfl) (⟨rfl, rfl, rfl⟩)
    · refine V_iload_n eX5_letterWidth_0 rfl rfl ?_
      refine V_tswIn (tgt := 92) (off := 91) eX5_letterWidth_1 (by omega) (by omega) rfl rfl ?_
      refine V_iconst eX5_letterWidth_92 ?_
      exact V_iret eX5_letterWidth_93 ⟨Nat.zero_le _, Nat.zero_le _⟩ rfl (rfl) (⟨rfl, rfl, rfl⟩)
    · refine V_iload_n eX5_letterWidth_0 rfl rfl ?_
      refine V_tswIn (tgt := 88) (off := 87) eX5_letterWidth_1 (by omega) (by omega) rfl rfl ?_
      refine V_iconst eX5_letterWidth_88 ?_
      exact V_iret eX5_letterWidth_89 ⟨Nat.zero_le _, Nat.zero_le _⟩ rfl (rfl) (⟨rfl, rfl, rfl⟩)
    · refine V_iload_n eX5_letterWidth_0 rfl rfl ?_
      refine V_tswIn (tgt := 92) (off := 91) eX5_letterWidth_1 (by omega) (by omega) rfl rfl ?_
      refine V_iconst eX5_letterWidth_92 ?_
      exact V_iret eX5_letterWidth_93 ⟨Nat.zero_le _, Nat.zero_le _⟩ rfl (rfl) (⟨rfl, rfl, rfl⟩)
    · refine V_iload_n eX5_letterWidth_0 rfl rfl ?_
      refine V_tswIn (tgt := 88) (off := 87) eX5_letterWidth_1 (by omega) (by omega) rfl rfl ?_
      refine V_iconst eX5_letterWidth_88 ?_
      exact V_iret eX5_letterWidth_89 ⟨Nat.zero_le _, Nat.zero_le _⟩ rfl (rfl) (⟨rfl, rfl, rfl⟩)
    · refine V_iload_n eX5_letterWidth_0 rfl rfl ?_
      refine V_tswIn (tgt := 92) (off := 91) eX5_letterWidth_1 (by omega) (by omega) rfl rfl ?_
      refine V_iconst eX5_letterWidth_92 ?_
      exact V_iret eX5_letterWidth_93 ⟨Nat.zero_le _, Nat.zero_le _⟩ rfl (rfl) (⟨rfl, rfl, rfl⟩)
    · refine V_iload_n eX5_letterWidth_0 rfl rfl ?_
      refine V_tswIn (tgt := 92) (off := 91) eX5_letterWidth_1 (by omega) (by omega) rfl rfl ?_
      refine V_iconst eX5_letterWidth_92 ?_
      exact V_iret eX5_letterWidth_93 ⟨Nat.zero_le _, Nat.zero_le _⟩ rfl (rfl) (⟨rfl, rfl, rfl⟩)
    · refine V_iload_n eX5_letterWidth_0 rfl rfl ?_
      refine V_tswIn (tgt := 90) (off := 89) eX5_letterWidth_1 (by omega) (by omega) rfl rfl ?_
      refine V_iconst eX5_letterWidth_90 ?_
      exact V_iret eX5_letterWidth_91 ⟨Nat.zero_le _, Nat.zero_le _⟩ rfl (rfl) (⟨rfl, rfl, rfl⟩)
