section MK
variable {h : eb_H} {b : Nat}
theorem c_X7_init (H_this : h b = .inr (6, [.null, .int (eb_I 0), .int (eb_I 0), .int (eb_I 0), .int (eb_I 0), .int (eb_I 0)])) : eb_T mX7_init [.ref b] (b + 1) h (eb_G none (b + 2) (fun h' => tx_at h' b [] 30 0 0 0 ∧ ∀ k, (k < b ∨ b + 1 < k) → h' k = h k)) := by
  refine eb_T.of (by decide +kernel) (Nat.le_of_ble_eq_true rfl) ?_
  show eb_V _ _ 0 [.ref b] [] (b + 1, 0, 0) h _
  refine V_aload_n eX7_init_0 rfl rfl ?_
  refine V_oinit eX7_init_1 wd_78 wd_71 wd_72 (by decide) (Nat.le_of_ble_eq_true rfl) ?_
  refine V_aload_n eX7_init_4 rfl rfl ?_
  refine V_bipush eX7_init_5 (by decide) ?_
  refine V_newl eX7_init_7 wd_110 (rfl) (by decide) (by decide) ?_
  refine V_putf eX7_init_9 (eb_up_n (by omega) H_this) eb_fitA eb_s0 (Nat.le_of_ble_eq_true rfl) ?_
  refine V_aload_n eX7_init_12 rfl rfl ?_
  refine V_iconst eX7_init_13 ?_
  refine V_putf eX7_init_14 eb_up_s eb_fitI (eb_sS eb_s0) (Nat.le_of_ble_eq_true rfl) ?_
  refine V_aload_n eX7_init_17 rfl rfl ?_
  refine V_bipush eX7_init_18 (by decide) ?_
  refine V_putf eX7_init_20 eb_up_s eb_fitI (eb_sS (eb_sS eb_s0)) (Nat.le_of_ble_eq_true rfl) ?_
  refine V_aload_n eX7_init_23 rfl rfl ?_
  refine V_iconst eX7_init_24 ?_
  refine V_putf eX7_init_25 eb_up_s eb_fitI (eb_sS (eb_sS (eb_sS eb_s0))) (Nat.le_of_ble_eq_true rfl) ?_
  refine V_aload_n eX7_init_28 rfl rfl ?_
  refine V_iconst eX7_init_29 ?_
  refine V_putf eX7_init_30 eb_up_s eb_fitI (eb_sS (eb_sS (eb_sS (eb_sS eb_s0)))) (Nat.le_of_ble_eq_true rfl) ?_
  refine V_aload_n eX7_init_33 rfl rfl ?_
  refine V_iconst eX7_init_34 ?_
  refine V_putf eX7_init_35 eb_up_s (eb_fitZ (Or.inl rfl)) (eb_sS (eb_sS (eb_sS (eb_sS (eb_sS eb_s0))))) (Nat.le_of_ble_eq_true rfl) ?_
  refine V_vret eX7_init_38 (by decide) rfl (⟨rfl, rfl, ⟨eb_up_s, fun _ => 0, ?_, fun w hw => absurd hw (by simp)⟩, fun k hk => ?_⟩)
  · exact eb_up_n (by omega) (eb_up_n (by omega) (eb_up_n (by omega) (eb_up_n (by omega) (eb_up_n (by omega) (eb_up_n (by omega) eb_up_s)))))
  · exact eb_up_n (by omega) (eb_up_n (by omega) (eb_up_n (by omega) (eb_up_n (by omega) (eb_up_n (by omega) (eb_up_n (by omega) (eb_up_n (by omega) rfl))))))
theorem c_X8_init (H_this : h b = .inr (7, [.null, .null, .int (eb_I 0), .int (eb_I 0), .int (eb_I 0)])) : eb_T mX8_init [.ref b] (b + 1) h (eb_G none (b + 3) (fun h' => ty_at h' b [] (-1) ∧ ∀ k, (k < b ∨ b + 2 < k) → h' k = h k)) := by
  refine eb_T.of (by decide +kernel) (Nat.le_of_ble_eq_true rfl) ?_
  show eb_V _ _ 0 [.ref b] [] (b + 1, 0, 0) h _
  refine V_aload_n eX8_init_0 rfl rfl ?_
  refine V_oinit eX8_init_1 wd_116 wd_71 wd_72 (by decide) (Nat.le_of_ble_eq_true rfl) ?_
  refine V_aload_n eX8_init_4 rfl rfl ?_
  refine V_sipush eX8_init_5 (by decide) ?_
  refine V_newi eX8_init_8 wd_137 (rfl) (by decide) (by decide) ?_
  refine V_putf eX8_init_10 (eb_up_n (by omega) H_this) eb_fitA eb_s0 (Nat.le_of_ble_eq_true rfl) ?_
  refine V_aload_n eX8_init_13 rfl rfl ?_
  refine V_bipush eX8_init_14 (by decide) ?_
  refine V_newl eX8_init_16 wd_110 (rfl) (by decide) (by decide) ?_
  refine V_putf eX8_init_18 (eb_up_n (by omega) eb_up_s) eb_fitA (eb_sS eb_s0) (Nat.le_of_ble_eq_true rfl) ?_
  refine V_aload_n eX8_init_21 rfl rfl ?_
  refine V_iconst eX8_init_22 ?_
  refine V_putf eX8_init_23 eb_up_s eb_fitI (eb_sS (eb_sS eb_s0)) (Nat.le_of_ble_eq_true rfl) ?_
  refine V_aload_n eX8_init_26 rfl rfl ?_
  refine V_iconst eX8_init_27 ?_
  refine V_putf eX8_init_28 eb_up_s eb_fitI (eb_sS (eb_sS (eb_sS eb_s0))) (Nat.le_of_ble_eq_true rfl) ?_
  refine V_aload_n eX8_init_31 rfl rfl ?_
  refine V_iconst eX8_init_32 ?_
  refine V_putf eX8_init_33 eb_up_s eb_fitI (eb_sS (eb_sS (eb_sS (eb_sS eb_s0)))) (Nat.le_of_ble_eq_true rfl) ?_
  refine V_vret eX8_init_36 (by decide) rfl (⟨rfl, rfl, ⟨0, fun _ => 0, fun _ => 0, eb_up_s, ?_, ?_, fun w hw => absurd hw (by simp)⟩, fun k hk => ?_⟩)
  · exact eb_up_n (by omega) (eb_up_n (by omega) (eb_up_n (by omega) (eb_up_n (by omega) (eb_up_n (by omega) (eb_up_n (by omega) eb_up_s)))))
  · exact eb_up_n (by omega) (eb_up_n (by omega) (eb_up_n (by omega) (eb_up_n (by omega) eb_up_s)))
  · exact eb_up_n (by omega) (eb_up_n (by omega) (eb_up_n (by omega) (eb_up_n (by omega) (eb_up_n (by omega) (eb_up_n (by omega) (eb_up_n (by omega) rfl))))))
theorem c_X0_init (H_this : h b = .inr (0, [.null, .null, .int (eb_I 0)])) : eb_T mX0_init [.ref b] (b + 1) h (eb_G none (b + 3) (fun h' => bk_at h' b [] ∧ ∀ k, (k < b ∨ b + 2 < k) → h' k = h k)) := by
  refine eb_T.of (by decide +kernel) (Nat.le_of_ble_eq_true rfl) ?_
  show eb_V _ _ 0 [.ref b] [] (b + 1, 0, 0) h _
  refine V_aload_n eX0_init_0 rfl rfl ?_
  refine V_oinit eX0_init_1 wd_176 wd_71 wd_72 (by decide) (Nat.le_of_ble_eq_true rfl) ?_
  refine V_aload_n eX0_init_4 rfl rfl ?_
  refine V_bipush eX0_init_5 (by decide) ?_
  refine V_newi eX0_init_7 wd_137 (rfl) (by decide) (by decide) ?_
  refine V_putf eX0_init_9 (eb_up_n (by omega) H_this) eb_fitA eb_s0 (Nat.le_of_ble_eq_true rfl) ?_
  refine V_aload_n eX0_init_12 rfl rfl ?_
  refine V_bipush eX0_init_13 (by decide) ?_
  refine V_newi eX0_init_15 wd_137 (rfl) (by decide) (by decide) ?_
  refine V_putf eX0_init_17 (eb_up_n (by omega) eb_up_s) eb_fitA (eb_sS eb_s0) (Nat.le_of_ble_eq_true rfl) ?_
  refine V_aload_n eX0_init_20 rfl rfl ?_
  refine V_iconst eX0_init_21 ?_
  refine V_putf eX0_init_22 eb_up_s eb_fitI (eb_sS (eb_sS eb_s0)) (Nat.le_of_ble_eq_true rfl) ?_
  refine V_vret eX0_init_25 (by decide) rfl (⟨rfl, rfl, ⟨fun _ => 0, fun _ => 0, eb_up_s, ?_, ?_, fun w hw => absurd hw (by simp)⟩, fun k hk => ?_⟩)
  · exact eb_up_n (by omega) (eb_up_n (by omega) (eb_up_n (by omega) (eb_up_n (by omega) eb_up_s)))
  · exact eb_up_n (by omega) (eb_up_n (by omega) eb_up_s)
  · exact eb_up_n (by omega) (eb_up_n (by omega) (eb_up_n (by omega) (eb_up_n (by omega) (eb_up_n (by omega) rfl))))
theorem c_X1_init {n : Nat} (H_this : h b = .inr (1, [.int (eb_I 0)])) : eb_T mX1_init [.ref b] n h (eb_G none n (fun h' => h' b = dr_obj 0 ∧ ∀ k, k ≠ b → h' k = h k)) := by
  refine eb_T.of (by decide +kernel) (Nat.le_of_ble_eq_true rfl) ?_
  show eb_V _ _ 0 [.ref b] [] (n, 0, 0) h _
  refine V_aload_n eX1_init_0 rfl rfl ?_
  refine V_oinit eX1_init_1 wd_163 wd_71 wd_72 (by decide) (Nat.le_of_ble_eq_true rfl) ?_
  refine V_aload_n eX1_init_4 rfl rfl ?_
  refine V_iconst eX1_init_5 ?_
  refine V_putf eX1_init_6 H_this eb_fitI eb_s0 (Nat.le_of_ble_eq_true rfl) ?_
  exact V_vret eX1_init_9 ⟨Nat.zero_le _, Nat.zero_le _⟩ rfl (⟨rfl, rfl, eb_up_s, fun k hk => eb_up_n hk rfl⟩)
theorem c_X2_init (H_this : h b = .inr (2, [.null, .int (eb_I 0), .int (eb_I 0)])) : eb_T mX2_init [.ref b] (b + 1) h (eb_G none (b + 3) (fun h' => (∃ st, h' b = im_obj b st 0) ∧ tx_any h' (b + 1) ∧ ∀ k, (k < b ∨ b + 2 < k) → h' k = h k)) := by
  refine eb_T.of (by decide +kernel) (Nat.le_of_ble_eq_true rfl) ?_
  show eb_V _ _ 0 [.ref b] [] (b + 1, 0, 0) h _
  refine V_aload_n eX2_init_0 rfl rfl ?_
  refine V_oinit eX2_init_1 wd_275 wd_71 wd_72 (by decide) (Nat.le_of_ble_eq_true rfl) ?_
  refine V_aload_n eX2_init_4 rfl rfl ?_
  refine V_new eX2_init_5 (fun _ _ => rfl) (by decide) ?_
  refine V_dup eX2_init_8 rfl ?_
  refine V_callc eX2_init_9 (c_X7_init (b := b + 1) eb_up_s) rfl rfl (Nat.le_of_ble_eq_true rfl) (by decide) (Or.inr (fun r n' h' z => by rw [z.2.1]; exact Nat.le_refl _)) (fun r n' h1 z => ?_)
  obtain ⟨rfl, rfl, A1, A2⟩ := z
  show eb_V _ _ 12 _ [.ref (b + 1), .ref b] (b + 3, _, _) h1 _
  have H_this : h1 b = _ := (A2 b (by omega)).trans (eb_up_n (by omega) H_this)
  refine V_putf eX2_init_12 H_this eb_fitO eb_s0 (Nat.le_of_ble_eq_true rfl) ?_
  refine V_aload_n eX2_init_15 rfl rfl ?_
  refine V_iconst eX2_init_16 ?_
  refine V_putf eX2_init_17 eb_up_s eb_fitI (eb_sS eb_s0) (Nat.le_of_ble_eq_true rfl) ?_
  refine V_aload_n eX2_init_20 rfl rfl ?_
  refine V_iconst eX2_init_21 ?_
  refine V_putf eX2_init_22 eb_up_s (eb_fitZ (Or.inl rfl)) (eb_sS (eb_sS eb_s0)) (Nat.le_of_ble_eq_true rfl) ?_
  exact V_vret eX2_init_25 (by decide) rfl (⟨rfl, rfl, ⟨0, eb_up_s⟩, A1.any.kept (eb_up_n (by omega) (eb_up_n (by omega) (eb_up_n (by omega) rfl))) (eb_up_n (by omega) (eb_up_n (by omega) (eb_up_n (by omega) rfl))), fun k hk => eb_up_n (by omega) (eb_up_n (by omega) (eb_up_n (by omega) ((A2 k (by omega)).trans (eb_up_n (by omega) rfl))))⟩)
theorem c_X6_init (H_this : h b = .inr (5, [.null, .null, .int (eb_I 0), .int (eb_I 0), .long (eb_J 0), .long (eb_J 0)])) : eb_T mX6_init [.ref b] (b + 1) h (eb_G none (b + 3) (fun h' => (∃ tb bf, su_at h' b 0 [] tb bf) ∧ ∀ k, (k < b ∨ b + 2 < k) → h' k = h k)) := by
  refine eb_T.of (by decide +kernel) (Nat.le_of_ble_eq_true rfl) ?_
  show eb_V _ _ 0 [.ref b] [] (b + 1, 0, 0) h _
  refine V_aload_n eX6_init_0 rfl rfl ?_
  refine V_oinit eX6_init_1 wd_248 wd_71 wd_72 (by decide) (Nat.le_of_ble_eq_true rfl) ?_
  refine V_aload_n eX6_init_4 rfl rfl ?_
  refine V_sipush eX6_init_5 (by decide) ?_
  refine V_newi eX6_init_8 wd_137 (rfl) (by decide) (by decide) ?_
  refine V_putf eX6_init_10 (eb_up_n (by omega) H_this) eb_fitA eb_s0 (Nat.le_of_ble_eq_true rfl) ?_
  refine V_aload_n eX6_init_13 rfl rfl ?_
  refine V_sipush eX6_init_14 (by decide) ?_
  refine V_newl eX6_init_17 wd_110 (rfl) (by decide) (by decide) ?_
  refine V_putf eX6_init_19 (eb_up_n (by omega) eb_up_s) eb_fitA (eb_sS eb_s0) (Nat.le_of_ble_eq_true rfl) ?_
  refine V_aload_n eX6_init_22 rfl rfl ?_
  refine V_iconst eX6_init_23 ?_
  refine V_putf eX6_init_24 eb_up_s (eb_fitZ (Or.inl rfl)) (eb_sS (eb_sS eb_s0)) (Nat.le_of_ble_eq_true rfl) ?_
  refine V_aload_n eX6_init_27 rfl rfl ?_
  refine V_iconst eX6_init_28 ?_
  refine V_putf eX6_init_29 eb_up_s eb_fitI (eb_sS (eb_sS (eb_sS eb_s0))) (Nat.le_of_ble_eq_true rfl) ?_
  refine V_aload_n eX6_init_32 rfl rfl ?_
  refine V_lconst (b := 0) eX6_init_33 (by decide) ?_
  refine V_putf eX6_init_34 eb_up_s eb_fitJ (eb_sS (eb_sS (eb_sS (eb_sS eb_s0)))) (Nat.le_of_ble_eq_true rfl) ?_
  refine V_aload_n eX6_init_37 rfl rfl ?_
  refine V_lconst (b := 0) eX6_init_38 (by decide) ?_
  refine V_putf eX6_init_39 eb_up_s eb_fitJ (eb_sS (eb_sS (eb_sS (eb_sS (eb_sS eb_s0))))) (Nat.le_of_ble_eq_true rfl) ?_
  refine V_vret eX6_init_42 (by decide) rfl (⟨rfl, rfl, ⟨fun _ => 0, fun _ => 0, eb_up_s, ?_, ?_⟩, fun k hk => ?_⟩)
  · exact eb_up_n (by omega) (eb_up_n (by omega) (eb_up_n (by omega) (eb_up_n (by omega) (eb_up_n (by omega) (eb_up_n (by omega) (eb_up_n (by omega) eb_up_s))))))
  · exact eb_up_n (by omega) (eb_up_n (by omega) (eb_up_n (by omega) (eb_up_n (by omega) (eb_up_n (by omega) eb_up_s))))
  · exact eb_up_n (by omega) (eb_up_n (by omega) (eb_up_n (by omega) (eb_up_n (by omega) (eb_up_n (by omega) (eb_up_n (by omega) (eb_up_n (by omega) (eb_up_n (by omega) rfl)))))))
theorem c_X3_init {rt : Nat} (H_this : h b = .inr (3, [.null, .null, .null, .null, .null, .null, .int (eb_I 0), .int (eb_I 0), .int (eb_I 0), .int (eb_I 0), .int (eb_I 0), .int (eb_I 0), .long (eb_J 0)])) (hrt : rt < b) (H_rt : h rt = eb_ia 200 lt_rt) : eb_T mX3_init [.ref b, .ref rt] (b + 1) h (eb_G none (b + 6) (fun h' => (∃ (N : Nat) (me law fee fr lines : Int) (bg : Nat) (pl to ow lb ro : Nat → Int), ly_at h' b rt N me law fee fr lines bg pl to ow lb ro) ∧ ∀ k, (k < b ∨ b + 5 < k) → h' k = h k)) := by
  refine eb_T.of (by decide +kernel) (Nat.le_of_ble_eq_true rfl) ?_
  show eb_V _ _ 0 [.ref b, .ref rt] [] (b + 1, 0, 0) h _
  refine V_aload_n eX3_init_0 rfl rfl ?_
  refine V_oinit eX3_init_1 wd_196 wd_71 wd_72 (by decide) (Nat.le_of_ble_eq_true rfl) ?_
  refine V_aload_n eX3_init_4 rfl rfl ?_
  refine V_bipush eX3_init_5 (by decide) ?_
  refine V_newi eX3_init_7 wd_137 (rfl) (by decide) (by decide) ?_
  refine V_putf eX3_init_9 (eb_up_n (by omega) H_this) eb_fitA (eb_sS eb_s0) (Nat.le_of_ble_eq_true rfl) ?_
  refine V_aload_n eX3_init_12 rfl rfl ?_
  refine V_bipush eX3_init_13 (by decide) ?_
  refine V_newi eX3_init_15 wd_137 (rfl) (by decide) (by decide) ?_
  refine V_putf eX3_init_17 (eb_up_n (by omega) eb_up_s) eb_fitA (eb_sS (eb_sS eb_s0)) (Nat.le_of_ble_eq_true rfl) ?_
  refine V_aload_n eX3_init_20 rfl rfl ?_
  refine V_bipush eX3_init_21 (by decide) ?_
  refine V_newi eX3_init_23 wd_137 (rfl) (by decide) (by decide) ?_
  refine V_putf eX3_init_25 (eb_up_n (by omega) eb_up_s) eb_fitA (eb_sS (eb_sS (eb_sS eb_s0))) (Nat.le_of_ble_eq_true rfl) ?_
  refine V_aload_n eX3_init_28 rfl rfl ?_
  refine V_bipush eX3_init_29 (by decide) ?_
  refine V_newi eX3_init_31 wd_137 (rfl) (by decide) (by decide) ?_
  refine V_putf eX3_init_33 (eb_up_n (by omega) eb_up_s) eb_fitA (eb_sS (eb_sS (eb_sS (eb_sS eb_s0)))) (Nat.le_of_ble_eq_true rfl) ?_
  refine V_aload_n eX3_init_36 rfl rfl ?_
  refine V_bipush eX3_init_37 (by decide) ?_
  refine V_newi eX3_init_39 wd_137 (rfl) (by decide) (by decide) ?_
  refine V_putf eX3_init_41 (eb_up_n (by omega) eb_up_s) eb_fitA (eb_sS (eb_sS (eb_sS (eb_sS (eb_sS eb_s0))))) (Nat.le_of_ble_eq_true rfl) ?_
  refine V_aload_n eX3_init_44 rfl rfl ?_
  refine V_iconst eX3_init_45 ?_
  refine V_putf eX3_init_46 eb_up_s eb_fitI (eb_sS (eb_sS (eb_sS (eb_sS (eb_sS (eb_sS eb_s0)))))) (Nat.le_of_ble_eq_true rfl) ?_
  refine V_aload_n eX3_init_49 rfl rfl ?_
  refine V_iconst eX3_init_50 ?_
  refine V_putf eX3_init_51 eb_up_s eb_fitI (eb_sS (eb_sS (eb_sS (eb_sS (eb_sS (eb_sS (eb_sS eb_s0))))))) (Nat.le_of_ble_eq_true rfl) ?_
  refine V_aload_n eX3_init_54 rfl rfl ?_
  refine V_iconst eX3_init_55 ?_
  refine V_putf eX3_init_56 eb_up_s eb_fitI (eb_sS (eb_sS (eb_sS (eb_sS (eb_sS (eb_sS (eb_sS (eb_sS eb_s0)))))))) (Nat.le_of_ble_eq_true rfl) ?_
  refine V_aload_n eX3_init_59 rfl rfl ?_
  refine V_iconst eX3_init_60 ?_
  refine V_putf eX3_init_61 eb_up_s eb_fitI (eb_sS (eb_sS (eb_sS (eb_sS (eb_sS (eb_sS (eb_sS (eb_sS (eb_sS eb_s0))))))))) (Nat.le_of_ble_eq_true rfl) ?_
  refine V_aload_n eX3_init_64 rfl rfl ?_
  refine V_iconst eX3_init_65 ?_
  refine V_putf eX3_init_66 eb_up_s (eb_fitZ (Or.inl rfl)) (eb_sS (eb_sS (eb_sS (eb_sS (eb_sS (eb_sS (eb_sS (eb_sS (eb_sS (eb_sS eb_s0)))))))))) (Nat.le_of_ble_eq_true rfl) ?_
  refine V_aload_n eX3_init_69 rfl rfl ?_
  refine V_iconst eX3_init_70 ?_
  refine V_putf eX3_init_71 eb_up_s eb_fitI (eb_sS (eb_sS (eb_sS (eb_sS (eb_sS (eb_sS (eb_sS (eb_sS (eb_sS (eb_sS (eb_sS eb_s0))))))))))) (Nat.le_of_ble_eq_true rfl) ?_
  refine V_aload_n eX3_init_74 rfl rfl ?_
  refine V_lconst (b := 0) eX3_init_75 (by decide) ?_
  refine V_putf eX3_init_76 eb_up_s eb_fitJ (eb_sS (eb_sS (eb_sS (eb_sS (eb_sS (eb_sS (eb_sS (eb_sS (eb_sS (eb_sS (eb_sS (eb_sS eb_s0)))))))))))) (Nat.le_of_ble_eq_true rfl) ?_
  refine V_aload_n eX3_init_79 rfl rfl ?_
  refine V_aload_n eX3_init_80 rfl rfl ?_
  refine V_putf eX3_init_81 eb_up_s eb_fitA eb_s0 (Nat.le_of_ble_eq_true rfl) ?_
  refine V_vret eX3_init_84 (by decide) rfl (⟨rfl, rfl, ⟨0, 1, 0, 0, 0, 0, 0, fun _ => 0, fun _ => 0, fun _ => 0, fun _ => 0, fun _ => 0, eb_up_s, ?_, ?_, ?_, ?_, ?_, ?_⟩, fun k hk => ?_⟩)
  · exact (eb_up_n (by omega) (eb_up_n (by omega) (eb_up_n (by omega) (eb_up_n (by omega) (eb_up_n (by omega) (eb_up_n (by omega) (eb_up_n (by omega) (eb_up_n (by omega) (eb_up_n (by omega) (eb_up_n (by omega) (eb_up_n (by omega) (eb_up_n (by omega) (eb_up_n (by omega) (eb_up_n (by omega) (eb_up_n (by omega) (eb_up_n (by omega) (eb_up_n (by omega) eb_up_s)))))))))))))))))
  · exact (eb_up_n (by omega) (eb_up_n (by omega) (eb_up_n (by omega) (eb_up_n (by omega) (eb_up_n (by omega) (eb_up_n (by omega) (eb_up_n (by omega) (eb_up_n (by omega) (eb_up_n (by omega) (eb_up_n (by omega) (eb_up_n (by omega) (eb_up_n (by omega) (eb_up_n (by omega) (eb_up_n (by omega) (eb_up_n (by omega) eb_up_s)))))))))))))))
  · exact (eb_up_n (by omega) (eb_up_n (by omega) (eb_up_n (by omega) (eb_up_n (by omega) (eb_up_n (by omega) (eb_up_n (by omega) (eb_up_n (by omega) (eb_up_n (by omega) (eb_up_n (by omega) (eb_up_n (by omega) (eb_up_n (by omega) (eb_up_n (by omega) (eb_up_n (by omega) eb_up_s)))))))))))))
  · exact (eb_up_n (by omega) (eb_up_n (by omega) (eb_up_n (by omega) (eb_up_n (by omega) (eb_up_n (by omega) (eb_up_n (by omega) (eb_up_n (by omega) (eb_up_n (by omega) (eb_up_n (by omega) (eb_up_n (by omega) (eb_up_n (by omega) eb_up_s)))))))))))
  · exact (eb_up_n (by omega) (eb_up_n (by omega) (eb_up_n (by omega) (eb_up_n (by omega) (eb_up_n (by omega) (eb_up_n (by omega) (eb_up_n (by omega) (eb_up_n (by omega) (eb_up_n (by omega) eb_up_s)))))))))
  · exact (eb_up_n (by omega) (eb_up_n (by omega) (eb_up_n (by omega) (eb_up_n (by omega) (eb_up_n (by omega) (eb_up_n (by omega) (eb_up_n (by omega) (eb_up_n (by omega) (eb_up_n (by omega) (eb_up_n (by omega) (eb_up_n (by omega) (eb_up_n (by omega) (eb_up_n (by omega) (eb_up_n (by omega) (eb_up_n (by omega) (eb_up_n (by omega) (eb_up_n (by omega) (eb_up_n (by omega) H_rt))))))))))))))))))
  · exact (eb_up_n (by omega) (eb_up_n (by omega) (eb_up_n (by omega) (eb_up_n (by omega) (eb_up_n (by omega) (eb_up_n (by omega) (eb_up_n (by omega) (eb_up_n (by omega) (eb_up_n (by omega) (eb_up_n (by omega) (eb_up_n (by omega) (eb_up_n (by omega) (eb_up_n (by omega) (eb_up_n (by omega) (eb_up_n (by omega) (eb_up_n (by omega) (eb_up_n (by omega) (eb_up_n (by omega) rfl))))))))))))))))))
theorem c_X4_init (H_this : h b = .inr (4, [.null, .int (eb_I 0), .int (eb_I 0)])) : eb_T mX4_init [.ref b] (b + 1) h (eb_G none (b + 34) (fun h' => pa_at h' b [] ∧ ∀ k, (k < b ∨ b + 33 < k) → h' k = h k)) := by
  refine eb_T.of (by decide +kernel) (Nat.le_of_ble_eq_true rfl) ?_
  show eb_V _ _ 0 [.ref b, eb_no] [] (b + 1, 0, 0) h _
  have loop : ∀ (d i nn c s : Nat) (h1 : eb_H) (f : Nat → Option Nat), i + d = 16 → nn = b + 2 + 2 * i → c = 1 + 2 * i → s = 16 + 46 * i → h1 b = pa_obj b 0 0 → h1 (b + 1) = eb_qa 3 16 f → (∀ j, j < i → f j = some (b + 2 + 2 * j)) → (∀ j, j < i → tx_any h1 (b + 2 + 2 * j)) → (∀ k, (k < b ∨ b + 33 < k) → h1 k = h k) → eb_V mX4_init (fun _ _ _ => True) 25 [.ref b, .int (eb_I (i : Int))] [] (nn, c, s) h1 (eb_R mX4_init (eb_G none (b + 34) (fun h' => pa_at h' b [] ∧ ∀ k, (k < b ∨ b + 33 < k) → h' k = h k))) := by
    intro d
    induction d with
    | zero =>
      intro i nn c s h1 f hi hn hc hs A1 A2 A3 A4 A5
      refine V_iload_n eX4_init_25 rfl rfl ?_
      refine V_bipush eX4_init_26 (by decide) ?_
      refine V_icmp_ge (tgt := 50) eX4_init_28 rfl (by omega) (fun c_28 => ?_) (fun c_28 => ?_)
      · exact V_vret eX4_init_50 (by show c ≤ 33 ∧ s ≤ 752; omega) rfl (⟨rfl, by omega, ⟨0, f, A1, A2, fun j hj => A3 j (by omega), by omega, by simp, fun j hj => A4 j (by omega), fun j hj => absurd hj (by simp)⟩, A5⟩)
      · exact absurd (by omega) c_28
    | succ d ih =>
      intro i nn c s h1 f hi hn hc hs H_this H_this_texts A3 A4 A5
      refine V_iload_n eX4_init_25 rfl rfl ?_
      refine V_bipush eX4_init_26 (by decide) ?_
      refine V_icmp_ge (tgt := 50) eX4_init_28 rfl (by omega) (fun c_28 => ?_) (fun c_28 => ?_)
      · exact absurd c_28 (by omega)
      · refine V_aload_n eX4_init_31 rfl rfl ?_
        refine V_getf eX4_init_32 H_this rfl ?_
        refine V_iload_n eX4_init_35 rfl rfl ?_
        refine V_new eX4_init_36 (fun _ _ => rfl) (by show c + 1 ≤ 33 ∧ s + 6 ≤ 752; omega) ?_
        refine V_dup eX4_init_39 rfl ?_
        refine V_callc eX4_init_40 (c_X7_init (b := nn) eb_up_s) rfl rfl (Nat.le_of_ble_eq_true rfl) (by show c + 1 + 1 ≤ 33 ∧ s + 6 + 40 ≤ 752; omega) (Or.inr (fun r n' h' z => by rw [z.2.1]; exact Nat.le_refl _)) (fun r n' h2 z => ?_)
        obtain ⟨rfl, rfl, B1, B2⟩ := z
        show eb_V _ _ 43 _ [.ref nn, .int (eb_I (i : Int)), .ref (b + 1)] (nn + 2, c + 1 + 1, s + 6 + 40) h2 _
        have H_this_texts : h2 (b + 1) = _ := (B2 (b + 1) (by omega)).trans (eb_up_n (by omega) H_this_texts)
        refine V_aast eX4_init_43 (Or.inl ⟨rfl, rfl⟩) H_this_texts B1.1 (by omega) ?_
        rw [Int.toNat_natCast]
        refine V_iinc eX4_init_44 rfl rfl (eb_sS eb_s0) ?_
        refine V_goto (tgt := 25) eX4_init_47 rfl ?_
        exact ih (i + 1) _ _ _ _ _ (by omega) (by omega) (by omega) (by omega) (eb_up_n (by omega) ((B2 b (by omega)).trans (eb_up_n (by omega) H_this))) eb_up_s (fun j hj => by
          unfold eb_set
          by_cases y : j = i
          · rw [if_pos y, y, hn]
          · rw [if_neg y]
            exact A3 j (by omega)) (fun j hj => by
          by_cases y : j = i
          · have B1' := B1.any
            subst y
            rw [hn] at B1'
            exact B1'.kept (eb_up_n (by omega) rfl) (eb_up_n (by omega) rfl)
          · exact (A4 j (by omega)).kept (eb_up_n (by omega) ((B2 _ (by omega)).trans (eb_up_n (by omega) rfl))) (eb_up_n (by omega) ((B2 _ (by omega)).trans (eb_up_n (by omega) rfl)))) (fun k hk => eb_up_n (by omega) ((B2 k (by omega)).trans (eb_up_n (by omega) (A5 k hk))))
  refine V_aload_n eX4_init_0 rfl rfl ?_
  refine V_oinit eX4_init_1 wd_143 wd_71 wd_72 (by decide) (Nat.le_of_ble_eq_true rfl) ?_
  refine V_aload_n eX4_init_4 rfl rfl ?_
  refine V_bipush eX4_init_5 (by decide) ?_
  refine V_newq eX4_init_7 (Or.inl ⟨rfl, rfl⟩) wd_144 (rfl) (by decide) (by decide) ?_
  refine V_putf eX4_init_10 (eb_up_n (by omega) H_this) eb_fitA eb_s0 (Nat.le_of_ble_eq_true rfl) ?_
  refine V_aload_n eX4_init_13 rfl rfl ?_
  refine V_iconst eX4_init_14 ?_
  refine V_putf eX4_init_15 eb_up_s eb_fitI (eb_sS eb_s0) (Nat.le_of_ble_eq_true rfl) ?_
  refine V_aload_n eX4_init_18 rfl rfl ?_
  refine V_iconst eX4_init_19 ?_
  refine V_putf eX4_init_20 eb_up_s eb_fitI (eb_sS (eb_sS eb_s0)) (Nat.le_of_ble_eq_true rfl) ?_
  refine V_iconst eX4_init_23 ?_
  refine V_istore_n eX4_init_24 rfl (Nat.le_of_ble_eq_true rfl) rfl (eb_sS eb_s0) ?_
  exact loop 16 0 _ _ _ _ (fun _ => none) (by omega) rfl rfl rfl eb_up_s (eb_up_n (by omega) (eb_up_n (by omega) (eb_up_n (by omega) eb_up_s))) (fun j hj => absurd hj (by omega)) (fun j hj => absurd hj (by omega)) (fun k hk => (eb_up_n (by omega) (eb_up_n (by omega) (eb_up_n (by omega) (eb_up_n (by omega) rfl)))))
theorem c_X9_tableOfRoots {n : Nat} : eb_T mX9_tableOfRoots [] n h (eb_G (some (.ref n)) (n + 1) (fun h' => h' n = eb_ia 200 lt_rt ∧ ∀ k, k ≠ n → h' k = h k)) := by
  refine eb_T.of (by decide +kernel) (Nat.le_of_ble_eq_true rfl) ?_
  show eb_V _ _ 0 [eb_no, eb_no, eb_no] [] (n, 0, 0) h _
  have loop : ∀ (d s : Nat) (h1 : eb_H) (r : Nat) (f : Nat → Int), s + d = 200 → r * r ≤ 100 * s → h1 n = eb_ia 200 f → (∀ k, f k = if k < s then lt_rt k else 0) → (∀ k, k ≠ n → h1 k = h k) → eb_V mX9_tableOfRoots (fun _ _ _ => True) 10 [.ref n, .int (eb_I (r : Int)), .int (eb_I (s : Int))] [] (n + 1, 0 + 1, 0 + 200) h1 (eb_R mX9_tableOfRoots (eb_G (some (.ref n)) (n + 1) (fun h' => h' n = eb_ia 200 lt_rt ∧ ∀ k, k ≠ n → h' k = h k))) := by
    intro d
    induction d with
    | zero =>
      intro s h1 r f hs hr A1 A2 A3
      have hs2 : s = 200 := by omega
      subst hs2
      have ef : f = lt_rt := funext (fun k => by
        rw [A2 k]
        unfold lt_rt
        split
        · rfl
        · rfl)
      rw [ef] at A1
      refine V_iload_n eX9_tableOfRoots_10 rfl rfl ?_
      refine V_sipush eX9_tableOfRoots_11 (by decide) ?_
      refine V_icmp_ge (tgt := 54) eX9_tableOfRoots_14 rfl (by omega) (fun c_14 => ?_) (fun c_14 => ?_)
      · refine V_aload_n eX9_tableOfRoots_54 rfl rfl ?_
        exact V_aret eX9_tableOfRoots_55 (by decide) rfl (Or.inr ⟨_, rfl⟩) (⟨rfl, rfl, A1, A3⟩)
      · exact absurd (by omega) c_14
    | succ d ih =>
      intro s h1 r f hs hr A1 A2 A3
      have inner : ∀ (q r : Nat), r + q = 200 → r * r ≤ 100 * s → eb_V mX9_tableOfRoots (fun _ _ _ => True) 17 [.ref n, .int (eb_I (r : Int)), .int (eb_I (s : Int))] [] (n + 1, 0 + 1, 0 + 200) h1 (eb_R mX9_tableOfRoots (eb_G (some (.ref n)) (n + 1) (fun h' => h' n = eb_ia 200 lt_rt ∧ ∀ k, k ≠ n → h' k = h k))) := by
        intro q
        induction q with
        | zero =>
          intro r hq hr
          have : r = 200 := by omega
          subst this
          omega
        | succ q ihq =>
          intro r hq hr
          obtain ⟨sq, hsq⟩ : ∃ sq : Nat, sq = (r + 1) * (r + 1) := ⟨_, rfl⟩
          have e : ((r : Int) + 1) * ((r : Int) + 1) = (sq : Int) := by rw [hsq]; simp
          have hb : sq ≤ 201 * 201 := by rw [hsq]; exact Nat.mul_le_mul (by omega) (by omega)
          have H_roots := A1
          by_cases y : sq ≤ 100 * s
          · refine V_iload_n eX9_tableOfRoots_17 rfl rfl ?_
            refine V_sipush eX9_tableOfRoots_18 (by decide) ?_
            refine V_icmp_ge (tgt := 44) eX9_tableOfRoots_21 rfl (by omega) (fun c_21 => ?_) (fun c_21 => ?_)
            · exact absurd c_21 (by omega)
            · refine V_iload_n eX9_tableOfRoots_24 rfl rfl ?_
              refine V_iconst eX9_tableOfRoots_25 ?_
              refine V_iadd eX9_tableOfRoots_26 ?_
              refine V_iload_n eX9_tableOfRoots_27 rfl rfl ?_
              refine V_iconst eX9_tableOfRoots_28 ?_
              refine V_iadd eX9_tableOfRoots_29 ?_
              refine V_imul eX9_tableOfRoots_30 ?_
              rw [e]
              refine V_bipush eX9_tableOfRoots_31 (by decide) ?_
              refine V_iload_n eX9_tableOfRoots_33 rfl rfl ?_
              refine V_imul eX9_tableOfRoots_34 ?_
              refine V_icmp_gt (tgt := 44) eX9_tableOfRoots_35 rfl (by omega) (fun c_35 => ?_) (fun c_35 => ?_)
              · exact absurd c_35 (by omega)
              · refine V_iinc eX9_tableOfRoots_38 rfl rfl (eb_sS eb_s0) ?_
                refine V_goto (tgt := 17) eX9_tableOfRoots_41 rfl ?_
                exact ihq (r + 1) (by omega) (by rw [← hsq]; exact y)
          · have er : lt_rt s = (r : Int) := lt_rt_eq (by omega) hr (by rw [← hsq]; omega) (by omega)
            refine V_iload_n eX9_tableOfRoots_17 rfl rfl ?_
            refine V_sipush eX9_tableOfRoots_18 (by decide) ?_
            refine V_icmp_ge (tgt := 44) eX9_tableOfRoots_21 rfl (by omega) (fun c_21 => ?_) (fun c_21 => ?_)
            · exact absurd c_21 (by omega)
            · refine V_iload_n eX9_tableOfRoots_24 rfl rfl ?_
              refine V_iconst eX9_tableOfRoots_25 ?_
              refine V_iadd eX9_tableOfRoots_26 ?_
              refine V_iload_n eX9_tableOfRoots_27 rfl rfl ?_
              refine V_iconst eX9_tableOfRoots_28 ?_
              refine V_iadd eX9_tableOfRoots_29 ?_
              refine V_imul eX9_tableOfRoots_30 ?_
              rw [e]
              refine V_bipush eX9_tableOfRoots_31 (by decide) ?_
              refine V_iload_n eX9_tableOfRoots_33 rfl rfl ?_
              refine V_imul eX9_tableOfRoots_34 ?_
              refine V_icmp_gt (tgt := 44) eX9_tableOfRoots_35 rfl (by omega) (fun c_35 => ?_) (fun c_35 => ?_)
              · refine V_aload_n eX9_tableOfRoots_44 rfl rfl ?_
                refine V_iload_n eX9_tableOfRoots_45 rfl rfl ?_
                refine V_iload_n eX9_tableOfRoots_46 rfl rfl ?_
                refine V_iast eX9_tableOfRoots_47 H_roots (by omega) ?_
                rw [Int.toNat_natCast]
                refine V_iinc eX9_tableOfRoots_48 rfl rfl (eb_sS (eb_sS eb_s0)) ?_
                refine V_goto (tgt := 10) eX9_tableOfRoots_51 rfl ?_
                exact ih (s + 1) _ r _ (by omega) (by omega) eb_up_s (fun k => by
                  unfold eb_set
                  by_cases y2 : k = s
                  · rw [if_pos y2, if_pos (by omega), y2, er]
                  · rw [if_neg y2, A2 k]
                    by_cases y3 : k < s
                    · rw [if_pos y3, if_pos (by omega)]
                    · rw [if_neg y3, if_neg (by omega)]) (fun k hk => eb_up_n hk (A3 k hk))
              · exact absurd c_35 (by omega)
      have r200 : r ≤ 200 := by
        rcases Nat.lt_or_ge 200 r with z | z
        · have := Nat.mul_le_mul (show 201 ≤ r from z) (show 201 ≤ r from z)
          omega
        · exact z
      refine V_iload_n eX9_tableOfRoots_10 rfl rfl ?_
      refine V_sipush eX9_tableOfRoots_11 (by decide) ?_
      refine V_icmp_ge (tgt := 54) eX9_tableOfRoots_14 rfl (by omega) (fun c_14 => ?_) (fun c_14 => ?_)
      · exact absurd c_14 (by omega)
      · exact inner (200 - r) r (by omega) hr
  refine V_sipush eX9_tableOfRoots_0 (by decide) ?_
  refine V_newi eX9_tableOfRoots_3 wd_137 (rfl) (by decide) (by decide) ?_
  refine V_astore_n eX9_tableOfRoots_5 rfl (Nat.le_of_ble_eq_true rfl) rfl eb_s0 ?_
  refine V_iconst eX9_tableOfRoots_6 ?_
  refine V_istore_n eX9_tableOfRoots_7 rfl (Nat.le_of_ble_eq_true rfl) rfl (eb_sS eb_s0) ?_
  refine V_iconst eX9_tableOfRoots_8 ?_
  refine V_istore_n eX9_tableOfRoots_9 rfl (Nat.le_of_ble_eq_true rfl) rfl (eb_sS (eb_sS eb_s0)) ?_
  exact loop 200 0 _ 0 (fun _ => 0) (by omega) (by omega) eb_up_s (fun k => by rw [if_neg (by omega)]) (fun k hk => eb_up_n hk rfl)
theorem c_X9_init (H_this : h 0 = .inr (8, [.null, .null, .null, .null, .null, .null, .null, .null, .null])) : eb_T mX9_init [.ref 0] 1 h (eb_G none 67 (fun h' => XR h' ([], 30, 0, 0, 0) [] (-1) [] 0 none none [] [])) := by
  refine eb_T.of (by decide +kernel) (Nat.le_of_ble_eq_true rfl) ?_
  show eb_V _ _ 0 [.ref 0, eb_no, eb_no] [] (1, 0, 0) h _
  have HO : TX_ok ([], 30, 0, 0, 0) := ⟨⟨by simp, ⟨by decide, by decide⟩, ⟨by decide, by decide⟩, ⟨by decide, by decide⟩, Or.inl rfl⟩, by simp⟩
  have tail3 : ∀ (h11 : eb_H) (st0 st1 : Int) (tb bf : Nat → Int) (c s : Nat), c = 66 → s ≤ 3000 → tx_at h11 1 [] 30 0 0 0 → ty_at h11 3 [] (-1) → pa_at h11 6 [] → h11 40 = dr_obj 0 → bk_at h11 42 [] → lyany h11 46 → lyany h11 52 → su_at h11 58 0 [] tb bf → h11 0 = x9_obj → h11 61 = im_obj 61 st0 0 → tx_any h11 62 → h11 64 = im_obj 64 st1 0 → tx_any h11 65 → ∀ f : Nat → Option Nat, f 0 = some 61 → f 1 = some 64 → eb_V mX9_init (fun _ _ _ => True) 108 [.ref 0, .ref 45, .int (eb_I 2)] [] (67, c, s) (eb_up h11 41 (eb_qa 4 2 f)) (eb_R mX9_init (eb_G none 67 (fun h' => XR h' ([], 30, 0, 0, 0) [] (-1) [] 0 none none [] []))) := by
    intro h11 st0 st1 tb bf c s hc hs A1 B1 C1 D1 E1 G1 J1 K1 HT P1 P3 S1 S3 f f0 f1
    obtain ⟨h12, hh⟩ : ∃ h12, h12 = eb_up h11 41 (eb_qa 4 2 f) := ⟨_, rfl⟩
    rw [← hh]
    have fr : ∀ k, k ≠ 41 → h12 k = h11 k := fun k z => by rw [hh, eb_up, if_neg z]
    have H_this : h12 0 = x9_obj := (fr 0 (by omega)).trans HT
    have HX : xo h12 := ⟨H_this, f, by rw [hh]; exact eb_up_s, f0, f1⟩
    have A1 := tx_at.kept A1 (fr 1 (by omega)) (fr 2 (by omega))
    have B1 := ty_at.kept B1 (fun k x y => fr k (by omega))
    have C1 := pa_at.kept C1 (fun k x y => fr k (by omega))
    have D1 := (fr 40 (by omega)).trans D1
    have E1 := bk_at.kept E1 (fun k x y => fr k (by omega))
    have G1 := lyany.kept G1 (fr 45 (by omega)) (fun k x y => fr k (by omega))
    have J1 := lyany.kept J1 (fr 45 (by omega)) (fun k x y => fr k (by omega))
    have K1 := su_at.kept K1 (fun k x y => fr k (by omega))
    have I0 : im h12 61 none := ⟨⟨st0, (fr 61 (by omega)).trans P1⟩, tx_any.kept P3 (fr 62 (by omega)) (fr 63 (by omega))⟩
    have I1 : im h12 64 none := ⟨⟨st1, (fr 64 (by omega)).trans S1⟩, tx_any.kept S3 (fr 65 (by omega)) (fr 66 (by omega))⟩
    have TL := c_X9_layAnew (n := 67) (T := ([], 30, 0, 0, 0)) HX A1 HO G1 ⟨0, tb, bf, K1⟩
    refine V_iload_n eX9_init_108 rfl rfl ?_
    refine V_iconst eX9_init_109 ?_
    refine V_icmp_ge (tgt := 132) eX9_init_110 rfl (by omega) (fun c_110 => ?_) (fun c_110 => ?_)
    · refine V_aload_n eX9_init_132 rfl rfl ?_
      refine V_callv eX9_init_133 TL H_this rfl rfl (by decide) (by show c + 0 ≤ 66 ∧ s + 0 ≤ 3000; omega) (Or.inl rfl) (fun r n' h13 z => ?_)
      obtain ⟨rfl, rfl, ⟨Z1, Z2⟩, Z3⟩ := z
      show eb_V _ _ 136 _ [] (67, c, s) h13 _
      exact V_vret eX9_init_136 (by show c ≤ 66 ∧ s ≤ 3000; omega) rfl (⟨rfl, rfl, XR.deed HX A1 B1 C1 D1 E1 J1 I0 I1 Z1 Z2 Z3⟩)
    · exact absurd (by decide) c_110
  have tail2 : ∀ (h10 : eb_H) (st0 : Int) (tb bf : Nat → Int) (c s : Nat), c = 63 → s ≤ 2950 → tx_at h10 1 [] 30 0 0 0 → ty_at h10 3 [] (-1) → pa_at h10 6 [] → h10 40 = dr_obj 0 → bk_at h10 42 [] → lyany h10 46 → lyany h10 52 → su_at h10 58 0 [] tb bf → h10 0 = x9_obj → h10 61 = im_obj 61 st0 0 → tx_any h10 62 → ∀ f : Nat → Option Nat, eb_V mX9_init (fun _ _ _ => True) 108 [.ref 0, .ref 45, .int (eb_I 1)] [] (64, c, s) (eb_up h10 41 (eb_qa 4 2 (eb_set f 0 (some 61)))) (eb_R mX9_init (eb_G none 67 (fun h' => XR h' ([], 30, 0, 0, 0) [] (-1) [] 0 none none [] []))) := by
    intro h10 st0 tb bf c s hc hs A1 B1 C1 D1 E1 G1 J1 K1 HT P1 P3 f
    have H_this : eb_up h10 41 (eb_qa 4 2 (eb_set f 0 (some 61))) 0 = x9_obj := eb_up_n (by omega) HT
    have H_this_images : eb_up h10 41 (eb_qa 4 2 (eb_set f 0 (some 61))) 41 = _ := eb_up_s
    refine V_iload_n eX9_init_108 rfl rfl ?_
    refine V_iconst eX9_init_109 ?_
    refine V_icmp_ge (tgt := 132) eX9_init_110 rfl (by omega) (fun c_110 => ?_) (fun c_110 => ?_)
    · exact absurd c_110 (by decide)
    · refine V_aload_n eX9_init_113 rfl rfl ?_
      refine V_getf eX9_init_114 H_this rfl ?_
      refine V_iload_n eX9_init_117 rfl rfl ?_
      refine V_new eX9_init_118 (fun _ _ => rfl) (by show c + 1 ≤ 66 ∧ s + 3 ≤ 3000; omega) ?_
      refine V_dup eX9_init_121 rfl ?_
      refine V_callc eX9_init_122 (c_X2_init (b := 64) eb_up_s) rfl rfl (by decide) (by show c + 1 + 2 ≤ 66 ∧ s + 3 + 46 ≤ 3000; omega) (Or.inr (fun r n' h' z => by rw [z.2.1]; exact Nat.le_refl _)) (fun r n' h11 z => ?_)
      obtain ⟨rfl, rfl, S1, S3, S2⟩ := z
      show eb_V _ _ 125 _ [.ref 64, .int (eb_I 1), .ref 41] (67, _, _) h11 _
      have H_this : h11 0 = x9_obj := (S2 0 (by omega)).trans (eb_up_n (by omega) H_this)
      have H_this_images : h11 41 = _ := (S2 41 (by omega)).trans (eb_up_n (by omega) H_this_images)
      have fr : ∀ k, 0 < k → k ≠ 41 → k < 64 → h11 k = h10 k := fun k z1 z2 z3 => (S2 k (by omega)).trans (eb_up_n (by omega) (eb_up_n (by omega) rfl))
      have A1 := tx_at.kept A1 (fr 1 (by omega) (by omega) (by omega)) (fr 2 (by omega) (by omega) (by omega))
      have B1 := ty_at.kept B1 (fun k x y => fr k (by omega) (by omega) (by omega))
      have C1 := pa_at.kept C1 (fun k x y => fr k (by omega) (by omega) (by omega))
      have D1 := (fr 40 (by omega) (by omega) (by omega)).trans D1
      have E1 := bk_at.kept E1 (fun k x y => fr k (by omega) (by omega) (by omega))
      have G1 := lyany.kept G1 (fr 45 (by omega) (by omega) (by omega)) (fun k x y => fr k (by omega) (by omega) (by omega))
      have J1 := lyany.kept J1 (fr 45 (by omega) (by omega) (by omega)) (fun k x y => fr k (by omega) (by omega) (by omega))
      have K1 := su_at.kept K1 (fun k x y => fr k (by omega) (by omega) (by omega))
      obtain ⟨st1, S1⟩ := S1
      have P1 := (fr 61 (by omega) (by omega) (by omega)).trans P1
      have P3 := tx_any.kept P3 (fr 62 (by omega) (by omega) (by omega)) (fr 63 (by omega) (by omega) (by omega))
      refine V_aast eX9_init_125 (Or.inr ⟨rfl, rfl⟩) H_this_images S1 (by omega) ?_
      refine V_iinc eX9_init_126 rfl rfl (eb_sS (eb_sS eb_s0)) ?_
      refine V_goto (tgt := 108) eX9_init_129 rfl ?_
      exact tail3 h11 st0 st1 tb bf _ _ (show c + 1 + 2 = 66 by omega) (show s + 3 + 46 ≤ 3000 by omega) A1 B1 C1 D1 E1 G1 J1 K1 H_this P1 P3 S1 S3 _ rfl rfl
  have tail : ∀ (h9 : eb_H) (tb bf : Nat → Int) (c s : Nat), c = 60 → s ≤ 2900 → tx_at h9 1 [] 30 0 0 0 → ty_at h9 3 [] (-1) → pa_at h9 6 [] → h9 40 = dr_obj 0 → bk_at h9 42 [] → h9 41 = eb_qa 4 2 (fun _ => none) → h9 45 = eb_ia 200 lt_rt → lyany h9 46 → lyany h9 52 → su_at h9 58 0 [] tb bf → h9 0 = .inr (8, [.ref 1, .ref 3, .ref 6, .ref 40, .ref 41, .ref 46, .ref 52, .null, .ref 42]) → eb_V mX9_init (fun _ _ _ => True) 108 [.ref 0, .ref 45, .int (eb_I 0)] [] (61, c, s) (eb_up h9 0 x9_obj) (eb_R mX9_init (eb_G none 67 (fun h' => XR h' ([], 30, 0, 0, 0) [] (-1) [] 0 none none [] []))) := by
    intro h9 tb bf c s hc hs A1 B1 C1 D1 E1 I1 F1 G1 J1 K1 _
    have H_this : eb_up h9 0 x9_obj 0 = x9_obj := eb_up_s
    have H_this_images : eb_up h9 0 x9_obj 41 = _ := eb_up_n (by omega) I1
    refine V_iload_n eX9_init_108 rfl rfl ?_
    refine V_iconst eX9_init_109 ?_
    refine V_icmp_ge (tgt := 132) eX9_init_110 rfl (by omega) (fun c_110 => ?_) (fun c_110 => ?_)
    · exact absurd c_110 (by decide)
    · refine V_aload_n eX9_init_113 rfl rfl ?_
      refine V_getf eX9_init_114 H_this rfl ?_
      refine V_iload_n eX9_init_117 rfl rfl ?_
      refine V_new eX9_init_118 (fun _ _ => rfl) (by show c + 1 ≤ 66 ∧ s + 3 ≤ 3000; omega) ?_
      refine V_dup eX9_init_121 rfl ?_
      refine V_callc eX9_init_122 (c_X2_init (b := 61) eb_up_s) rfl rfl (by decide) (by show c + 1 + 2 ≤ 66 ∧ s + 3 + 46 ≤ 3000; omega) (Or.inr (fun r n' h' z => by rw [z.2.1]; exact Nat.le_refl _)) (fun r n' h10 z => ?_)
      obtain ⟨rfl, rfl, P1, P3, P2⟩ := z
      show eb_V _ _ 125 _ [.ref 61, .int (eb_I 0), .ref 41] (64, _, _) h10 _
      have H_this : h10 0 = x9_obj := (P2 0 (by omega)).trans (eb_up_n (by omega) eb_up_s)
      have H_this_images : h10 41 = _ := (P2 41 (by omega)).trans (eb_up_n (by omega) H_this_images)
      have fr : ∀ k, 0 < k → k ≠ 41 → k < 61 → h10 k = h9 k := fun k z1 z2 z3 => (P2 k (by omega)).trans (eb_up_n (by omega) (eb_up_n (by omega) rfl))
      have A1 := tx_at.kept A1 (fr 1 (by omega) (by omega) (by omega)) (fr 2 (by omega) (by omega) (by omega))
      have B1 := ty_at.kept B1 (fun k x y => fr k (by omega) (by omega) (by omega))
      have C1 := pa_at.kept C1 (fun k x y => fr k (by omega) (by omega) (by omega))
      have D1 := (fr 40 (by omega) (by omega) (by omega)).trans D1
      have E1 := bk_at.kept E1 (fun k x y => fr k (by omega) (by omega) (by omega))
      have G1 := lyany.kept G1 (fr 45 (by omega) (by omega) (by omega)) (fun k x y => fr k (by omega) (by omega) (by omega))
      have J1 := lyany.kept J1 (fr 45 (by omega) (by omega) (by omega)) (fun k x y => fr k (by omega) (by omega) (by omega))
      have K1 := su_at.kept K1 (fun k x y => fr k (by omega) (by omega) (by omega))
      obtain ⟨st0, P1⟩ := P1
      refine V_aast eX9_init_125 (Or.inr ⟨rfl, rfl⟩) H_this_images P1 (by omega) ?_
      refine V_iinc eX9_init_126 rfl rfl (eb_sS (eb_sS eb_s0)) ?_
      refine V_goto (tgt := 108) eX9_init_129 rfl ?_
      exact tail2 h10 st0 tb bf _ _ (show c + 1 + 2 = 63 by omega) (show s + 3 + 46 ≤ 2950 by omega) A1 B1 C1 D1 E1 G1 J1 K1 H_this P1 P3 _
  refine V_aload_n eX9_init_0 rfl rfl ?_
  refine V_oinit eX9_init_1 wd_70 wd_71 wd_72 (by decide) (Nat.le_of_ble_eq_true rfl) ?_
  refine V_aload_n eX9_init_4 rfl rfl ?_
  refine V_new eX9_init_5 (fun _ _ => rfl) (by decide) ?_
  refine V_dup eX9_init_8 rfl ?_
  refine V_callc eX9_init_9 (c_X7_init (b := 1) eb_up_s) rfl rfl (by decide) (by decide) (Or.inr (fun r n' h' z => by rw [z.2.1]; exact Nat.le_refl _)) (fun r n' h1 z => ?_)
  obtain ⟨rfl, rfl, A1, A2⟩ := z
  show eb_V _ _ 12 _ [.ref 1, .ref 0] (3, _, _) h1 _
  have H_this : h1 0 = _ := (A2 0 (by omega)).trans (eb_up_n (by omega) H_this)
  have fr : ∀ k, 0 < k → k < 1 → h1 k = h k := fun k z1 z2 => (A2 k (by omega)).trans (eb_up_n (by omega) rfl)
  refine V_putf eX9_init_12 H_this eb_fitO eb_s0 (Nat.le_of_ble_eq_true rfl) ?_
  refine V_aload_n eX9_init_15 rfl rfl ?_
  refine V_new eX9_init_16 (fun _ _ => rfl) (by decide) ?_
  refine V_dup eX9_init_19 rfl ?_
  refine V_callc eX9_init_20 (c_X8_init (b := 3) eb_up_s) rfl rfl (by decide) (by decide) (Or.inr (fun r n' h' z => by rw [z.2.1]; exact Nat.le_refl _)) (fun r n' h2 z => ?_)
  obtain ⟨rfl, rfl, B1, B2⟩ := z
  show eb_V _ _ 23 _ [.ref 3, .ref 0] (6, _, _) h2 _
  have H_this : h2 0 = _ := (B2 0 (by omega)).trans (eb_up_n (by omega) eb_up_s)
  have fr : ∀ k, 0 < k → k < 3 → h2 k = h1 k := fun k z1 z2 => (B2 k (by omega)).trans (eb_up_n (by omega) (eb_up_n (by omega) rfl))
  have A1 := tx_at.kept A1 (fr 1 (by omega) (by omega)) (fr 2 (by omega) (by omega))
  refine V_putf eX9_init_23 H_this eb_fitO (eb_sS eb_s0) (Nat.le_of_ble_eq_true rfl) ?_
  refine V_aload_n eX9_init_26 rfl rfl ?_
  refine V_new eX9_init_27 (fun _ _ => rfl) (by decide) ?_
  refine V_dup eX9_init_30 rfl ?_
  refine V_callc eX9_init_31 (c_X4_init (b := 6) eb_up_s) rfl rfl (by decide) (by decide) (Or.inr (fun r n' h' z => by rw [z.2.1]; exact Nat.le_refl _)) (fun r n' h3 z => ?_)
  obtain ⟨rfl, rfl, C1, C2⟩ := z
  show eb_V _ _ 34 _ [.ref 6, .ref 0] (40, _, _) h3 _
  have H_this : h3 0 = _ := (C2 0 (by omega)).trans (eb_up_n (by omega) eb_up_s)
  have fr : ∀ k, 0 < k → k < 6 → h3 k = h2 k := fun k z1 z2 => (C2 k (by omega)).trans (eb_up_n (by omega) (eb_up_n (by omega) rfl))
  have A1 := tx_at.kept A1 (fr 1 (by omega) (by omega)) (fr 2 (by omega) (by omega))
  have B1 := ty_at.kept B1 (fun k x y => fr k (by omega) (by omega))
  refine V_putf eX9_init_34 H_this eb_fitO (eb_sS (eb_sS eb_s0)) (Nat.le_of_ble_eq_true rfl) ?_
  refine V_aload_n eX9_init_37 rfl rfl ?_
  refine V_new eX9_init_38 (fun _ _ => rfl) (by decide) ?_
  refine V_dup eX9_init_41 rfl ?_
  refine V_callc eX9_init_42 (c_X1_init (b := 40) eb_up_s) rfl rfl (by decide) (by decide) (Or.inl rfl) (fun r n' h4 z => ?_)
  obtain ⟨rfl, rfl, D1, D2⟩ := z
  show eb_V _ _ 45 _ [.ref 40, .ref 0] (41, _, _) h4 _
  have H_this : h4 0 = _ := (D2 0 (by omega)).trans (eb_up_n (by omega) eb_up_s)
  have fr : ∀ k, 0 < k → k < 40 → h4 k = h3 k := fun k z1 z2 => (D2 k (by omega)).trans (eb_up_n (by omega) (eb_up_n (by omega) rfl))
  have A1 := tx_at.kept A1 (fr 1 (by omega) (by omega)) (fr 2 (by omega) (by omega))
  have B1 := ty_at.kept B1 (fun k x y => fr k (by omega) (by omega))
  have C1 := pa_at.kept C1 (fun k x y => fr k (by omega) (by omega))
  refine V_putf eX9_init_45 H_this eb_fitO (eb_sS (eb_sS (eb_sS eb_s0))) (Nat.le_of_ble_eq_true rfl) ?_
  refine V_aload_n eX9_init_48 rfl rfl ?_
  refine V_iconst eX9_init_49 ?_
  refine V_newq eX9_init_50 (Or.inr ⟨rfl, rfl⟩) wd_169 (rfl) (by decide) (by decide) ?_
  refine V_putf eX9_init_53 (eb_up_n (by omega) eb_up_s) eb_fitA (eb_sS (eb_sS (eb_sS (eb_sS eb_s0)))) (Nat.le_of_ble_eq_true rfl) ?_
  refine V_aload_n eX9_init_56 rfl rfl ?_
  refine V_new eX9_init_57 (fun _ _ => rfl) (by decide) ?_
  refine V_dup eX9_init_60 rfl ?_
  refine V_callc eX9_init_61 (c_X0_init (b := 42) eb_up_s) rfl rfl (by decide) (by decide) (Or.inr (fun r n' h' z => by rw [z.2.1]; exact Nat.le_refl _)) (fun r n' h5 z => ?_)
  obtain ⟨rfl, rfl, E1, E2⟩ := z
  show eb_V _ _ 64 _ [.ref 42, .ref 0] (45, _, _) h5 _
  have H_this : h5 0 = _ := (E2 0 (by omega)).trans (eb_up_n (by omega) eb_up_s)
  have fr : ∀ k, 0 < k → k < 41 → h5 k = h4 k := fun k z1 z2 => (E2 k (by omega)).trans (eb_up_n (by omega) (eb_up_n (by omega) (eb_up_n (by omega) (eb_up_n (by omega) rfl))))
  have A1 := tx_at.kept A1 (fr 1 (by omega) (by omega)) (fr 2 (by omega) (by omega))
  have B1 := ty_at.kept B1 (fun k x y => fr k (by omega) (by omega))
  have C1 := pa_at.kept C1 (fun k x y => fr k (by omega) (by omega))
  have D1 := (fr 40 (by omega) (by omega)).trans D1
  have I1 : h5 41 = eb_qa 4 2 (fun _ => none) := (E2 41 (by omega)).trans (eb_up_n (by omega) (eb_up_n (by omega) eb_up_s))
  refine V_putf eX9_init_64 H_this eb_fitO (eb_sS (eb_sS (eb_sS (eb_sS (eb_sS (eb_sS (eb_sS (eb_sS eb_s0)))))))) (Nat.le_of_ble_eq_true rfl) ?_
  refine V_calls eX9_init_67 (c_X9_tableOfRoots (n := 45)) rfl rfl (by decide) (by decide) (Or.inr (fun r n' h' z => by rw [z.2.1]; exact Nat.le_refl _)) (fun r n' h6 z => ?_)
  obtain ⟨rfl, rfl, F1, F2⟩ := z
  show eb_V _ _ 70 _ [.ref 45] (46, _, _) h6 _
  have H_this : h6 0 = _ := (F2 0 (by omega)).trans eb_up_s
  have fr : ∀ k, 0 < k → k < 45 → h6 k = h5 k := fun k z1 z2 => (F2 k (by omega)).trans (eb_up_n (by omega) rfl)
  have A1 := tx_at.kept A1 (fr 1 (by omega) (by omega)) (fr 2 (by omega) (by omega))
  have B1 := ty_at.kept B1 (fun k x y => fr k (by omega) (by omega))
  have C1 := pa_at.kept C1 (fun k x y => fr k (by omega) (by omega))
  have D1 := (fr 40 (by omega) (by omega)).trans D1
  have E1 := bk_at.kept E1 (fun k x y => fr k (by omega) (by omega))
  have I1 := (fr 41 (by omega) (by omega)).trans I1
  refine V_astore_n eX9_init_70 rfl (Nat.le_of_ble_eq_true rfl) rfl (eb_sS eb_s0) ?_
  refine V_aload_n eX9_init_71 rfl rfl ?_
  refine V_new eX9_init_72 (fun _ _ => rfl) (by decide) ?_
  refine V_dup eX9_init_75 rfl ?_
  refine V_aload_n eX9_init_76 rfl rfl ?_
  refine V_callc eX9_init_77 (c_X3_init (b := 46) (rt := 45) eb_up_s (by omega) (eb_up_n (by omega) F1)) rfl rfl (by decide) (by decide) (Or.inr (fun r n' h' z => by rw [z.2.1]; exact Nat.le_refl _)) (fun r n' h7 z => ?_)
  obtain ⟨rfl, rfl, G1, G2⟩ := z
  show eb_V _ _ 80 _ [.ref 46, .ref 0] (52, _, _) h7 _
  have H_this : h7 0 = _ := (G2 0 (by omega)).trans (eb_up_n (by omega) H_this)
  have fr : ∀ k, 0 < k → k < 46 → h7 k = h6 k := fun k z1 z2 => (G2 k (by omega)).trans (eb_up_n (by omega) rfl)
  have A1 := tx_at.kept A1 (fr 1 (by omega) (by omega)) (fr 2 (by omega) (by omega))
  have B1 := ty_at.kept B1 (fun k x y => fr k (by omega) (by omega))
  have C1 := pa_at.kept C1 (fun k x y => fr k (by omega) (by omega))
  have D1 := (fr 40 (by omega) (by omega)).trans D1
  have E1 := bk_at.kept E1 (fun k x y => fr k (by omega) (by omega))
  have I1 := (fr 41 (by omega) (by omega)).trans I1
  have F1 := (fr 45 (by omega) (by omega)).trans F1
  have G1 : lyany h7 46 := G1
  refine V_putf eX9_init_80 H_this eb_fitO (eb_sS (eb_sS (eb_sS (eb_sS (eb_sS eb_s0))))) (Nat.le_of_ble_eq_true rfl) ?_
  refine V_aload_n eX9_init_83 rfl rfl ?_
  refine V_new eX9_init_84 (fun _ _ => rfl) (by decide) ?_
  refine V_dup eX9_init_87 rfl ?_
  refine V_aload_n eX9_init_88 rfl rfl ?_
  refine V_callc eX9_init_89 (c_X3_init (b := 52) (rt := 45) eb_up_s (by omega) (eb_up_n (by omega) (eb_up_n (by omega) F1))) rfl rfl (by decide) (by decide) (Or.inr (fun r n' h' z => by rw [z.2.1]; exact Nat.le_refl _)) (fun r n' h8 z => ?_)
  obtain ⟨rfl, rfl, J1, J2⟩ := z
  show eb_V _ _ 92 _ [.ref 52, .ref 0] (58, _, _) h8 _
  have H_this : h8 0 = _ := (J2 0 (by omega)).trans (eb_up_n (by omega) eb_up_s)
  have fr : ∀ k, 0 < k → k < 52 → h8 k = h7 k := fun k z1 z2 => (J2 k (by omega)).trans (eb_up_n (by omega) (eb_up_n (by omega) rfl))
  have A1 := tx_at.kept A1 (fr 1 (by omega) (by omega)) (fr 2 (by omega) (by omega))
  have B1 := ty_at.kept B1 (fun k x y => fr k (by omega) (by omega))
  have C1 := pa_at.kept C1 (fun k x y => fr k (by omega) (by omega))
  have D1 := (fr 40 (by omega) (by omega)).trans D1
  have E1 := bk_at.kept E1 (fun k x y => fr k (by omega) (by omega))
  have I1 := (fr 41 (by omega) (by omega)).trans I1
  have F1 := (fr 45 (by omega) (by omega)).trans F1
  have G1 := lyany.kept G1 (fr 45 (by omega) (by omega)) (fun k x y => fr k (by omega) (by omega))
  have J1 : lyany h8 52 := J1
  refine V_putf eX9_init_92 H_this eb_fitO (eb_sS (eb_sS (eb_sS (eb_sS (eb_sS (eb_sS eb_s0)))))) (Nat.le_of_ble_eq_true rfl) ?_
  refine V_aload_n eX9_init_95 rfl rfl ?_
  refine V_new eX9_init_96 (fun _ _ => rfl) (by decide) ?_
  refine V_dup eX9_init_99 rfl ?_
  refine V_callc eX9_init_100 (c_X6_init (b := 58) eb_up_s) rfl rfl (by decide) (by decide) (Or.inr (fun r n' h' z => by rw [z.2.1]; exact Nat.le_refl _)) (fun r n' h9 z => ?_)
  obtain ⟨rfl, rfl, K1, K2⟩ := z
  show eb_V _ _ 103 _ [.ref 58, .ref 0] (61, _, _) h9 _
  have H_this : h9 0 = _ := (K2 0 (by omega)).trans (eb_up_n (by omega) eb_up_s)
  have fr : ∀ k, 0 < k → k < 58 → h9 k = h8 k := fun k z1 z2 => (K2 k (by omega)).trans (eb_up_n (by omega) (eb_up_n (by omega) rfl))
  have A1 := tx_at.kept A1 (fr 1 (by omega) (by omega)) (fr 2 (by omega) (by omega))
  have B1 := ty_at.kept B1 (fun k x y => fr k (by omega) (by omega))
  have C1 := pa_at.kept C1 (fun k x y => fr k (by omega) (by omega))
  have D1 := (fr 40 (by omega) (by omega)).trans D1
  have E1 := bk_at.kept E1 (fun k x y => fr k (by omega) (by omega))
  have I1 := (fr 41 (by omega) (by omega)).trans I1
  have F1 := (fr 45 (by omega) (by omega)).trans F1
  have G1 := lyany.kept G1 (fr 45 (by omega) (by omega)) (fun k x y => fr k (by omega) (by omega))
  have J1 := lyany.kept J1 (fr 45 (by omega) (by omega)) (fun k x y => fr k (by omega) (by omega))
  obtain ⟨tb, bf, K1⟩ := K1
  refine V_putf eX9_init_103 H_this eb_fitO (eb_sS (eb_sS (eb_sS (eb_sS (eb_sS (eb_sS (eb_sS eb_s0))))))) (Nat.le_of_ble_eq_true rfl) ?_
  refine V_iconst eX9_init_106 ?_
  refine V_istore_n eX9_init_107 rfl (Nat.le_of_ble_eq_true rfl) rfl (eb_sS (eb_sS eb_s0)) ?_
  exact tail h9 tb bf _ _ rfl (by decide) A1 B1 C1 D1 E1 I1 F1 G1 J1 K1 H_this
theorem c_X10_init (H_this : h 67 = .inr (9, [.null, .null, .int (eb_I 0), .int (eb_I 0), .null, .int (eb_I 0), .int (eb_I 0), .null, .null, .int (eb_I 0), .null, .null, .null, .null, .null, .null, .int (eb_I 0), .null, .null, .int (eb_I 0), .null, .int (eb_I 0), .null, .null, .int (eb_I 0), .int (eb_I 0), .int (eb_I 0), .null, .null])) : eb_T mX10_init [.ref 67] 68 h (eb_G none 86 (fun h' => MR h' ([], 30, 0, 0, 0) [] (-1) [] 0 none none [] [] ∧ L67 h h')) := by
  refine eb_T.of (by decide +kernel) (Nat.le_of_ble_eq_true rfl) ?_
  show eb_V _ _ 0 [.ref 67] [] (68, 0, 0) h _
  refine V_aload_n eX10_init_0 rfl rfl ?_
  refine V_oinit eX10_init_1 wd_703 wd_71 wd_72 (by decide) (Nat.le_of_ble_eq_true rfl) ?_
  refine V_aload_n eX10_init_4 rfl rfl ?_
  refine V_sipush eX10_init_5 (by decide) ?_
  refine V_newi eX10_init_8 wd_137 (rfl) (by decide) (by decide) ?_
  refine V_putf eX10_init_10 (eb_up_n (by omega) H_this) eb_fitA eb_s0 (Nat.le_of_ble_eq_true rfl) ?_
  refine V_aload_n eX10_init_13 rfl rfl ?_
  refine V_sipush eX10_init_14 (by decide) ?_
  refine V_newi eX10_init_17 wd_137 (rfl) (by decide) (by decide) ?_
  refine V_putf eX10_init_19 (eb_up_n (by omega) eb_up_s) eb_fitA (eb_sS eb_s0) (Nat.le_of_ble_eq_true rfl) ?_
  refine V_aload_n eX10_init_22 rfl rfl ?_
  refine V_sipush eX10_init_23 (by decide) ?_
  refine V_newi eX10_init_26 wd_137 (rfl) (by decide) (by decide) ?_
  refine V_putf eX10_init_28 (eb_up_n (by omega) eb_up_s) eb_fitA (eb_sS (eb_sS (eb_sS (eb_sS eb_s0)))) (Nat.le_of_ble_eq_true rfl) ?_
  refine V_aload_n eX10_init_31 rfl rfl ?_
  refine V_bipush eX10_init_32 (by decide) ?_
  refine V_newi eX10_init_34 wd_137 (rfl) (by decide) (by decide) ?_
  refine V_putf eX10_init_36 (eb_up_n (by omega) eb_up_s) eb_fitA (eb_sS (eb_sS (eb_sS (eb_sS (eb_sS (eb_sS (eb_sS eb_s0))))))) (Nat.le_of_ble_eq_true rfl) ?_
  refine V_aload_n eX10_init_39 rfl rfl ?_
  refine V_sipush eX10_init_40 (by decide) ?_
  refine V_newi eX10_init_43 wd_137 (rfl) (by decide) (by decide) ?_
  refine V_putf eX10_init_45 (eb_up_n (by omega) eb_up_s) eb_fitA (eb_sS (eb_sS (eb_sS (eb_sS (eb_sS (eb_sS (eb_sS (eb_sS eb_s0)))))))) (Nat.le_of_ble_eq_true rfl) ?_
  refine V_aload_n eX10_init_48 rfl rfl ?_
  refine V_bipush eX10_init_49 (by decide) ?_
  refine V_newi eX10_init_51 wd_137 (rfl) (by decide) (by decide) ?_
  refine V_putf eX10_init_53 (eb_up_n (by omega) eb_up_s) eb_fitA (eb_sS (eb_sS (eb_sS (eb_sS (eb_sS (eb_sS (eb_sS (eb_sS (eb_sS (eb_sS eb_s0)))))))))) (Nat.le_of_ble_eq_true rfl) ?_
  refine V_aload_n eX10_init_56 rfl rfl ?_
  refine V_bipush eX10_init_57 (by decide) ?_
  refine V_newi eX10_init_59 wd_137 (rfl) (by decide) (by decide) ?_
  refine V_putf eX10_init_61 (eb_up_n (by omega) eb_up_s) eb_fitA (eb_sS (eb_sS (eb_sS (eb_sS (eb_sS (eb_sS (eb_sS (eb_sS (eb_sS (eb_sS (eb_sS eb_s0))))))))))) (Nat.le_of_ble_eq_true rfl) ?_
  refine V_aload_n eX10_init_64 rfl rfl ?_
  refine V_sipush eX10_init_65 (by decide) ?_
  refine V_newi eX10_init_68 wd_137 (rfl) (by decide) (by decide) ?_
  refine V_putf eX10_init_70 (eb_up_n (by omega) eb_up_s) eb_fitA (eb_sS (eb_sS (eb_sS (eb_sS (eb_sS (eb_sS (eb_sS (eb_sS (eb_sS (eb_sS (eb_sS (eb_sS eb_s0)))))))))))) (Nat.le_of_ble_eq_true rfl) ?_
  refine V_aload_n eX10_init_73 rfl rfl ?_
  refine V_bipush eX10_init_74 (by decide) ?_
  refine V_newi eX10_init_76 wd_137 (rfl) (by decide) (by decide) ?_
  refine V_putf eX10_init_78 (eb_up_n (by omega) eb_up_s) eb_fitA (eb_sS (eb_sS (eb_sS (eb_sS (eb_sS (eb_sS (eb_sS (eb_sS (eb_sS (eb_sS (eb_sS (eb_sS (eb_sS eb_s0))))))))))))) (Nat.le_of_ble_eq_true rfl) ?_
  refine V_aload_n eX10_init_81 rfl rfl ?_
  refine V_bipush eX10_init_82 (by decide) ?_
  refine V_newi eX10_init_84 wd_137 (rfl) (by decide) (by decide) ?_
  refine V_putf eX10_init_86 (eb_up_n (by omega) eb_up_s) eb_fitA (eb_sS (eb_sS (eb_sS (eb_sS (eb_sS (eb_sS (eb_sS (eb_sS (eb_sS (eb_sS (eb_sS (eb_sS (eb_sS (eb_sS eb_s0)))))))))))))) (Nat.le_of_ble_eq_true rfl) ?_
  refine V_aload_n eX10_init_89 rfl rfl ?_
  refine V_bipush eX10_init_90 (by decide) ?_
  refine V_newi eX10_init_92 wd_137 (rfl) (by decide) (by decide) ?_
  refine V_putf eX10_init_94 (eb_up_n (by omega) eb_up_s) eb_fitA (eb_sS (eb_sS (eb_sS (eb_sS (eb_sS (eb_sS (eb_sS (eb_sS (eb_sS (eb_sS (eb_sS (eb_sS (eb_sS (eb_sS (eb_sS eb_s0))))))))))))))) (Nat.le_of_ble_eq_true rfl) ?_
  refine V_aload_n eX10_init_97 rfl rfl ?_
  refine V_bipush eX10_init_98 (by decide) ?_
  refine V_newi eX10_init_100 wd_137 (rfl) (by decide) (by decide) ?_
  refine V_putf eX10_init_102 (eb_up_n (by omega) eb_up_s) eb_fitA (eb_sS (eb_sS (eb_sS (eb_sS (eb_sS (eb_sS (eb_sS (eb_sS (eb_sS (eb_sS (eb_sS (eb_sS (eb_sS (eb_sS (eb_sS (eb_sS (eb_sS eb_s0))))))))))))))))) (Nat.le_of_ble_eq_true rfl) ?_
  refine V_aload_n eX10_init_105 rfl rfl ?_
  refine V_bipush eX10_init_106 (by decide) ?_
  refine V_newi eX10_init_108 wd_137 (rfl) (by decide) (by decide) ?_
  refine V_putf eX10_init_110 (eb_up_n (by omega) eb_up_s) eb_fitA (eb_sS (eb_sS (eb_sS (eb_sS (eb_sS (eb_sS (eb_sS (eb_sS (eb_sS (eb_sS (eb_sS (eb_sS (eb_sS (eb_sS (eb_sS (eb_sS (eb_sS (eb_sS eb_s0)))))))))))))))))) (Nat.le_of_ble_eq_true rfl) ?_
  refine V_aload_n eX10_init_113 rfl rfl ?_
  refine V_bipush eX10_init_114 (by decide) ?_
  refine V_newi eX10_init_116 wd_137 (rfl) (by decide) (by decide) ?_
  refine V_putf eX10_init_118 (eb_up_n (by omega) eb_up_s) eb_fitA (eb_sS (eb_sS (eb_sS (eb_sS (eb_sS (eb_sS (eb_sS (eb_sS (eb_sS (eb_sS (eb_sS (eb_sS (eb_sS (eb_sS (eb_sS (eb_sS (eb_sS (eb_sS (eb_sS (eb_sS eb_s0)))))))))))))))))))) (Nat.le_of_ble_eq_true rfl) ?_
  refine V_aload_n eX10_init_121 rfl rfl ?_
  refine V_sipush eX10_init_122 (by decide) ?_
  refine V_newl eX10_init_125 wd_110 (rfl) (by decide) (by decide) ?_
  refine V_putf eX10_init_127 (eb_up_n (by omega) eb_up_s) eb_fitA (eb_sS (eb_sS (eb_sS (eb_sS (eb_sS (eb_sS (eb_sS (eb_sS (eb_sS (eb_sS (eb_sS (eb_sS (eb_sS (eb_sS (eb_sS (eb_sS (eb_sS (eb_sS (eb_sS (eb_sS (eb_sS (eb_sS eb_s0)))))))))))))))))))))) (Nat.le_of_ble_eq_true rfl) ?_
  refine V_aload_n eX10_init_130 rfl rfl ?_
  refine V_sipush eX10_init_131 (by decide) ?_
  refine V_newz eX10_init_134 wd_792 (rfl) (by decide) (by decide) ?_
  refine V_putf eX10_init_136 (eb_up_n (by omega) eb_up_s) eb_fitA (eb_sS (eb_sS (eb_sS (eb_sS (eb_sS (eb_sS (eb_sS (eb_sS (eb_sS (eb_sS (eb_sS (eb_sS (eb_sS (eb_sS (eb_sS (eb_sS (eb_sS (eb_sS (eb_sS (eb_sS (eb_sS (eb_sS (eb_sS eb_s0))))))))))))))))))))))) (Nat.le_of_ble_eq_true rfl) ?_
  refine V_aload_n eX10_init_139 rfl rfl ?_
  refine V_sipush eX10_init_140 (by decide) ?_
  refine V_newi eX10_init_143 wd_137 (rfl) (by decide) (by decide) ?_
  refine V_putf eX10_init_145 (eb_up_n (by omega) eb_up_s) eb_fitA (eb_sS (eb_sS (eb_sS (eb_sS (eb_sS (eb_sS (eb_sS (eb_sS (eb_sS (eb_sS (eb_sS (eb_sS (eb_sS (eb_sS (eb_sS (eb_sS (eb_sS (eb_sS (eb_sS (eb_sS (eb_sS (eb_sS (eb_sS (eb_sS (eb_sS (eb_sS (eb_sS eb_s0))))))))))))))))))))))))))) (Nat.le_of_ble_eq_true rfl) ?_
  refine V_aload_n eX10_init_148 rfl rfl ?_
  refine V_iconst eX10_init_149 ?_
  refine V_newz eX10_init_150 wd_792 (rfl) (by decide) (by decide) ?_
  refine V_putf eX10_init_152 (eb_up_n (by omega) eb_up_s) eb_fitA (eb_sS (eb_sS (eb_sS (eb_sS (eb_sS (eb_sS (eb_sS (eb_sS (eb_sS (eb_sS (eb_sS (eb_sS (eb_sS (eb_sS (eb_sS (eb_sS (eb_sS (eb_sS (eb_sS (eb_sS (eb_sS (eb_sS (eb_sS (eb_sS (eb_sS (eb_sS (eb_sS (eb_sS eb_s0)))))))))))))))))))))))))))) (Nat.le_of_ble_eq_true rfl) ?_
  refine V_aload_n eX10_init_155 rfl rfl ?_
  refine V_getf eX10_init_156 eb_up_s rfl ?_
  refine V_iconst eX10_init_159 ?_
  refine V_bipush eX10_init_160 (by decide) ?_
  refine V_iast eX10_init_162 (eb_up_n (by omega) (eb_up_n (by omega) (eb_up_n (by omega) (eb_up_n (by omega) (eb_up_n (by omega) (eb_up_n (by omega) (eb_up_n (by omega) (eb_up_n (by omega) (eb_up_n (by omega) (eb_up_n (by omega) (eb_up_n (by omega) (eb_up_n (by omega) (eb_up_n (by omega) (eb_up_n (by omega) (eb_up_n (by omega) (eb_up_n (by omega) (eb_up_n (by omega) (eb_up_n (by omega) (eb_up_n (by omega) (eb_up_n (by omega) (eb_up_n (by omega) (eb_up_n (by omega) (eb_up_n (by omega) (eb_up_n (by omega) (eb_up_n (by omega) (eb_up_n (by omega) (eb_up_n (by omega) (eb_up_n (by omega) (eb_up_n (by omega) (eb_up_n (by omega) (eb_up_n (by omega) (eb_up_n (by omega) (eb_up_n (by omega) (eb_up_n (by omega) (eb_up_n (by omega) eb_up_s))))))))))))))))))))))))))))))))))) (⟨by decide, by decide, by decide⟩) ?_
  refine V_aload_n eX10_init_163 rfl rfl ?_
  refine V_iconst eX10_init_164 ?_
  refine V_putf eX10_init_165 (eb_up_n (by omega) eb_up_s) eb_fitI (eb_sS (eb_sS (eb_sS (eb_sS (eb_sS (eb_sS eb_s0)))))) (Nat.le_of_ble_eq_true rfl) ?_
  refine V_vret eX10_init_168 (by decide) rfl (⟨rfl, rfl, ⟨fun k => if k = 6 then -1 else 0, eb_up_s, ⟨rfl, rfl, rfl, rfl, rfl, rfl⟩, ⟨_, (eb_up_n (by omega) eb_up_s), ?_⟩, ⟨_, (eb_up_n (by omega) (eb_up_n (by omega) (eb_up_n (by omega) (eb_up_n (by omega) (eb_up_n (by omega) (eb_up_n (by omega) (eb_up_n (by omega) (eb_up_n (by omega) (eb_up_n (by omega) (eb_up_n (by omega) (eb_up_n (by omega) (eb_up_n (by omega) (eb_up_n (by omega) (eb_up_n (by omega) (eb_up_n (by omega) (eb_up_n (by omega) (eb_up_n (by omega) (eb_up_n (by omega) (eb_up_n (by omega) (eb_up_n (by omega) (eb_up_n (by omega) (eb_up_n (by omega) (eb_up_n (by omega) (eb_up_n (by omega) (eb_up_n (by omega) (eb_up_n (by omega) (eb_up_n (by omega) (eb_up_n (by omega) (eb_up_n (by omega) (eb_up_n (by omega) (eb_up_n (by omega) (eb_up_n (by omega) (eb_up_n (by omega) (eb_up_n (by omega) (eb_up_n (by omega) eb_up_s))))))))))))))))))))))))))))))))))), fun i hi => absurd hi (by simp)⟩, ⟨_, (eb_up_n (by omega) (eb_up_n (by omega) (eb_up_n (by omega) (eb_up_n (by omega) (eb_up_n (by omega) (eb_up_n (by omega) (eb_up_n (by omega) (eb_up_n (by omega) (eb_up_n (by omega) (eb_up_n (by omega) (eb_up_n (by omega) (eb_up_n (by omega) (eb_up_n (by omega) (eb_up_n (by omega) (eb_up_n (by omega) (eb_up_n (by omega) (eb_up_n (by omega) (eb_up_n (by omega) (eb_up_n (by omega) (eb_up_n (by omega) (eb_up_n (by omega) (eb_up_n (by omega) (eb_up_n (by omega) (eb_up_n (by omega) (eb_up_n (by omega) (eb_up_n (by omega) (eb_up_n (by omega) (eb_up_n (by omega) (eb_up_n (by omega) (eb_up_n (by omega) (eb_up_n (by omega) (eb_up_n (by omega) (eb_up_n (by omega) eb_up_s))))))))))))))))))))))))))))))))), fun i hi => absurd hi (by simp)⟩, ⟨⟨_, (eb_up_n (by omega) (eb_up_n (by omega) (eb_up_n (by omega) (eb_up_n (by omega) (eb_up_n (by omega) (eb_up_n (by omega) (eb_up_n (by omega) (eb_up_n (by omega) (eb_up_n (by omega) (eb_up_n (by omega) (eb_up_n (by omega) (eb_up_n (by omega) (eb_up_n (by omega) (eb_up_n (by omega) (eb_up_n (by omega) (eb_up_n (by omega) (eb_up_n (by omega) (eb_up_n (by omega) (eb_up_n (by omega) (eb_up_n (by omega) (eb_up_n (by omega) (eb_up_n (by omega) (eb_up_n (by omega) (eb_up_n (by omega) (eb_up_n (by omega) (eb_up_n (by omega) (eb_up_n (by omega) (eb_up_n (by omega) (eb_up_n (by omega) (eb_up_n (by omega) (eb_up_n (by omega) eb_up_s)))))))))))))))))))))))))))))))⟩, _, (eb_up_n (by omega) (eb_up_n (by omega) (eb_up_n (by omega) (eb_up_n (by omega) (eb_up_n (by omega) (eb_up_n (by omega) (eb_up_n (by omega) (eb_up_n (by omega) (eb_up_n (by omega) (eb_up_n (by omega) (eb_up_n (by omega) (eb_up_n (by omega) (eb_up_n (by omega) (eb_up_n (by omega) (eb_up_n (by omega) (eb_up_n (by omega) (eb_up_n (by omega) (eb_up_n (by omega) (eb_up_n (by omega) (eb_up_n (by omega) (eb_up_n (by omega) (eb_up_n (by omega) (eb_up_n (by omega) (eb_up_n (by omega) (eb_up_n (by omega) (eb_up_n (by omega) (eb_up_n (by omega) (eb_up_n (by omega) (eb_up_n (by omega) eb_up_s)))))))))))))))))))))))))))))⟩, ⟨⟨_, (eb_up_n (by omega) (eb_up_n (by omega) (eb_up_n (by omega) (eb_up_n (by omega) (eb_up_n (by omega) (eb_up_n (by omega) (eb_up_n (by omega) (eb_up_n (by omega) (eb_up_n (by omega) (eb_up_n (by omega) (eb_up_n (by omega) (eb_up_n (by omega) (eb_up_n (by omega) (eb_up_n (by omega) (eb_up_n (by omega) (eb_up_n (by omega) (eb_up_n (by omega) (eb_up_n (by omega) (eb_up_n (by omega) (eb_up_n (by omega) (eb_up_n (by omega) (eb_up_n (by omega) (eb_up_n (by omega) (eb_up_n (by omega) (eb_up_n (by omega) (eb_up_n (by omega) (eb_up_n (by omega) eb_up_s)))))))))))))))))))))))))))⟩, ⟨_, _, _, _, (eb_up_n (by omega) (eb_up_n (by omega) (eb_up_n (by omega) (eb_up_n (by omega) (eb_up_n (by omega) (eb_up_n (by omega) (eb_up_n (by omega) (eb_up_n (by omega) (eb_up_n (by omega) (eb_up_n (by omega) (eb_up_n (by omega) (eb_up_n (by omega) (eb_up_n (by omega) (eb_up_n (by omega) (eb_up_n (by omega) (eb_up_n (by omega) (eb_up_n (by omega) (eb_up_n (by omega) (eb_up_n (by omega) (eb_up_n (by omega) (eb_up_n (by omega) (eb_up_n (by omega) (eb_up_n (by omega) (eb_up_n (by omega) (eb_up_n (by omega) eb_up_s))))))))))))))))))))))))), (eb_up_n (by omega) (eb_up_n (by omega) (eb_up_n (by omega) (eb_up_n (by omega) (eb_up_n (by omega) (eb_up_n (by omega) (eb_up_n (by omega) (eb_up_n (by omega) (eb_up_n (by omega) (eb_up_n (by omega) (eb_up_n (by omega) (eb_up_n (by omega) (eb_up_n (by omega) (eb_up_n (by omega) (eb_up_n (by omega) (eb_up_n (by omega) (eb_up_n (by omega) (eb_up_n (by omega) (eb_up_n (by omega) (eb_up_n (by omega) (eb_up_n (by omega) (eb_up_n (by omega) (eb_up_n (by omega) eb_up_s))))))))))))))))))))))), (eb_up_n (by omega) (eb_up_n (by omega) (eb_up_n (by omega) (eb_up_n (by omega) (eb_up_n (by omega) (eb_up_n (by omega) (eb_up_n (by omega) (eb_up_n (by omega) (eb_up_n (by omega) (eb_up_n (by omega) (eb_up_n (by omega) (eb_up_n (by omega) (eb_up_n (by omega) (eb_up_n (by omega) (eb_up_n (by omega) (eb_up_n (by omega) (eb_up_n (by omega) (eb_up_n (by omega) (eb_up_n (by omega) (eb_up_n (by omega) (eb_up_n (by omega) eb_up_s))))))))))))))))))))), (eb_up_n (by omega) (eb_up_n (by omega) (eb_up_n (by omega) (eb_up_n (by omega) (eb_up_n (by omega) (eb_up_n (by omega) (eb_up_n (by omega) (eb_up_n (by omega) (eb_up_n (by omega) (eb_up_n (by omega) (eb_up_n (by omega) (eb_up_n (by omega) (eb_up_n (by omega) (eb_up_n (by omega) (eb_up_n (by omega) (eb_up_n (by omega) (eb_up_n (by omega) (eb_up_n (by omega) (eb_up_n (by omega) eb_up_s)))))))))))))))))))⟩, ⟨_, (eb_up_n (by omega) (eb_up_n (by omega) (eb_up_n (by omega) (eb_up_n (by omega) (eb_up_n (by omega) (eb_up_n (by omega) (eb_up_n (by omega) (eb_up_n (by omega) (eb_up_n (by omega) (eb_up_n (by omega) (eb_up_n (by omega) (eb_up_n (by omega) (eb_up_n (by omega) (eb_up_n (by omega) (eb_up_n (by omega) (eb_up_n (by omega) (eb_up_n (by omega) eb_up_s)))))))))))))))))⟩, _, (eb_up_n (by omega) (eb_up_n (by omega) (eb_up_n (by omega) (eb_up_n (by omega) (eb_up_n (by omega) (eb_up_n (by omega) (eb_up_n (by omega) (eb_up_n (by omega) (eb_up_n (by omega) (eb_up_n (by omega) (eb_up_n (by omega) (eb_up_n (by omega) (eb_up_n (by omega) (eb_up_n (by omega) (eb_up_n (by omega) eb_up_s)))))))))))))))⟩, ⟨_, (eb_up_n (by omega) (eb_up_n (by omega) (eb_up_n (by omega) (eb_up_n (by omega) (eb_up_n (by omega) (eb_up_n (by omega) (eb_up_n (by omega) (eb_up_n (by omega) (eb_up_n (by omega) (eb_up_n (by omega) (eb_up_n (by omega) (eb_up_n (by omega) (eb_up_n (by omega) eb_up_s))))))))))))), fun i hi => absurd hi (by simp)⟩, ⟨_, (eb_up_n (by omega) (eb_up_n (by omega) (eb_up_n (by omega) (eb_up_n (by omega) (eb_up_n (by omega) (eb_up_n (by omega) (eb_up_n (by omega) (eb_up_n (by omega) (eb_up_n (by omega) (eb_up_n (by omega) (eb_up_n (by omega) eb_up_s))))))))))), fun i hi => absurd hi (by simp)⟩, ⟨⟨_, (eb_up_n (by omega) (eb_up_n (by omega) (eb_up_n (by omega) (eb_up_n (by omega) (eb_up_n (by omega) (eb_up_n (by omega) (eb_up_n (by omega) (eb_up_n (by omega) (eb_up_n (by omega) eb_up_s)))))))))⟩, _, (eb_up_n (by omega) (eb_up_n (by omega) (eb_up_n (by omega) (eb_up_n (by omega) (eb_up_n (by omega) (eb_up_n (by omega) (eb_up_n (by omega) eb_up_s)))))))⟩, _, _, (eb_up_n (by omega) (eb_up_n (by omega) (eb_up_n (by omega) (eb_up_n (by omega) (eb_up_n (by omega) eb_up_s))))), (eb_up_n (by omega) (eb_up_n (by omega) (eb_up_n (by omega) eb_up_s))), rfl, rfl⟩, fun k hk => (eb_up_n (by omega) (eb_up_n (by omega) (eb_up_n (by omega) (eb_up_n (by omega) (eb_up_n (by omega) (eb_up_n (by omega) (eb_up_n (by omega) (eb_up_n (by omega) (eb_up_n (by omega) (eb_up_n (by omega) (eb_up_n (by omega) (eb_up_n (by omega) (eb_up_n (by omega) (eb_up_n (by omega) (eb_up_n (by omega) (eb_up_n (by omega) (eb_up_n (by omega) (eb_up_n (by omega) (eb_up_n (by omega) (eb_up_n (by omega) (eb_up_n (by omega) (eb_up_n (by omega) (eb_up_n (by omega) (eb_up_n (by omega) (eb_up_n (by omega) (eb_up_n (by omega) (eb_up_n (by omega) (eb_up_n (by omega) (eb_up_n (by omega) (eb_up_n (by omega) (eb_up_n (by omega) (eb_up_n (by omega) (eb_up_n (by omega) (eb_up_n (by omega) (eb_up_n (by omega) (eb_up_n (by omega) (eb_up_n (by omega) (eb_up_n (by omega) rfl))))))))))))))))))))))))))))))))))))))⟩)
  exact ⟨rfl, rfl, rfl, rfl, rfl, fun w hw => absurd hw (by simp)⟩
end MK
