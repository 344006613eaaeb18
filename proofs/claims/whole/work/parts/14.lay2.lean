/-! Layout: totals and owners -/
section LY2
variable {n : Nat} {h : eb_H} {b rt N bg : Nat} {me law fee fr lines : Int} {pl to ow lb ro : Nat → Int} {wf : Nat → Int}
theorem c_X3_pr {i j : Nat} (HL : ly_at h b rt N me law fee fr lines bg pl to ow lb ro) (hq : lt_ok (N, wf, me, law, fee, fr)) (hpl : ∀ k, k ≤ N → pl k = lt_pl wf k) (hij : i < j) (hj : j ≤ N) : eb_T mX3_price [.ref b, .int (eb_I (i : Int)), .int (eb_I (j : Int))] n h (eb_X (some (.int (eb_I (lt_c (N, wf, me, law, fee, fr) i j)))) n h) := by
  have hN : N ≤ 40 := hq.1.1
  have hs := lt_slack hq hij hj
  have e1 := hpl i (by omega)
  have e2 := hpl j hj
  have := c_X3_price (n := n) (i := i) (j := j) HL hq.1 (by omega) (by omega) (by rw [e1, e2]; exact hs)
  rw [e1, e2] at this
  exact this
theorem c_X3_settle {e : Nat} (HL : ly_at h b rt N me law fee fr lines bg pl to ow lb ro) (hq : lt_ok (N, wf, me, law, fee, fr)) (hpl : ∀ k, k ≤ N → pl k = lt_pl wf k) (he : 0 < e ∧ e ≤ N) (hto : ∀ i, i < e → to i = dp_t (lt_c (N, wf, me, law, fee, fr)) i) :
    eb_T mX3_settle [.ref b, .int (eb_I (e : Int))] n h (eb_X none n (eb_up (eb_up h (b + 2) (eb_ia 41 (eb_set to e (dp_t (lt_c (N, wf, me, law, fee, fr)) e)))) (b + 3) (eb_ia 41 (eb_set ow e (dp_o (lt_c (N, wf, me, law, fee, fr)) e))))) := by
  refine eb_T.of (by decide +kernel) (Nat.le_of_ble_eq_true rfl) ?_
  show eb_V _ _ 0 [.ref b, .int (eb_I (e : Int)), eb_no, eb_no, eb_no, eb_no, eb_no] [] (n, 0, 0) h _
  have HL' := HL
  obtain ⟨H_this, H_this_place, H_this_total, H_this_owner, H_this_lineBegin, H_this_row, H_this_roots⟩ := HL
  have hN : N ≤ 40 := hq.1.1
  have hme : 1 ≤ me ∧ me ≤ 200 := hq.1.2.1
  have hco := lt_cok hq
  have hfl := dp_f_lt hco he.2
  generalize hf : dp_f (lt_c (N, wf, me, law, fee, fr)) e = f at hfl
  have hfe : ∀ i, i < e → f i = to i + lt_c (N, wf, me, law, fee, fr) i e := fun i hi => by rw [← hf, hto i hi]; rfl
  have ht0 : ∀ i, i < e → 0 ≤ to i := fun i hi => by rw [hto i hi]; exact (dp_t_r hco i (by omega)).1
  have hcr : ∀ i, i < e → 0 ≤ lt_c (N, wf, me, law, fee, fr) i e ∧ lt_c (N, wf, me, law, fee, fr) i e ≤ 13690099 := fun i hi => hco i e hi he.2
  have fin : ∀ (a : Nat) (x4 x5 x6 : Value), dp_is f e a → eb_V mX3_settle (fun _ _ _ => True) 86 [.ref b, .int (eb_I (e : Int)), .int (eb_I (f a)), .int (eb_I (a : Int)), x4, x5, x6] [] (n, 0, 0) h (eb_R mX3_settle (eb_X none n (eb_up (eb_up h (b + 2) (eb_ia 41 (eb_set to e (dp_t (lt_c (N, wf, me, law, fee, fr)) e)))) (b + 3) (eb_ia 41 (eb_set ow e (dp_o (lt_c (N, wf, me, law, fee, fr)) e)))))) := by
    intro a x4 x5 x6 ha
    have e1 := dp_eq (fun i hi => by have := hfl i hi; omega) ha
    have e2 : dp_t (lt_c (N, wf, me, law, fee, fr)) e = f a := by rw [dp_t_s _ he.1, hf]; exact e1.1
    have e3 : dp_o (lt_c (N, wf, me, law, fee, fr)) e = (a : Int) := by unfold dp_o; rw [hf]; exact e1.2
    rw [e2, e3]
    refine V_aload_n eX3_settle_86 rfl rfl ?_
    refine V_getf eX3_settle_87 H_this rfl ?_
    refine V_iload_n eX3_settle_90 rfl rfl ?_
    refine V_iload_n eX3_settle_91 rfl rfl ?_
    refine V_iast eX3_settle_92 H_this_total (by omega) ?_
    refine V_aload_n eX3_settle_93 rfl rfl ?_
    refine V_getf eX3_settle_94 (eb_up_n (by omega) H_this) rfl ?_
    refine V_iload_n eX3_settle_97 rfl rfl ?_
    refine V_iload_n eX3_settle_98 rfl rfl ?_
    refine V_iast eX3_settle_99 (eb_up_n (by omega) H_this_owner) (by omega) ?_
    exact V_vret eX3_settle_100 ⟨Nat.zero_le _, Nat.zero_le _⟩ rfl (⟨rfl, rfl, by simp⟩)
  have loop : ∀ (k : Nat) (x5 x6 : Value), k ≤ e → ∀ (least : Int) (from_ : Int), ((k = e ∧ least = 2147483647) ∨ ∃ a : Nat, from_ = (a : Int) ∧ least = f a ∧ k ≤ a ∧ a < e ∧ ∀ i, k ≤ i → i < e → f a ≤ f i ∧ (i < a → f a < f i)) → eb_V mX3_settle (fun _ _ _ => True) 10 [.ref b, .int (eb_I (e : Int)), .int (eb_I least), .int (eb_I from_), .int (eb_I ((k : Int) - 1)), x5, x6] [] (n, 0, 0) h (eb_R mX3_settle (eb_X none n (eb_up (eb_up h (b + 2) (eb_ia 41 (eb_set to e (dp_t (lt_c (N, wf, me, law, fee, fr)) e)))) (b + 3) (eb_ia 41 (eb_set ow e (dp_o (lt_c (N, wf, me, law, fee, fr)) e)))))) := by
    intro k
    induction k with
    | zero =>
      intro x5 x6 hk least from_ hinv
      rcases hinv with ⟨h0, -⟩ | ⟨a, rfl, rfl, h1, h2, h3⟩
      · omega
      · refine V_iload eX3_settle_10 rfl ?_
        refine V_if_lt (tgt := 86) eX3_settle_12 rfl (by omega) (fun c_12 => ?_) (fun c_12 => ?_)
        · exact fin a _ _ _ ⟨h2, fun i hi => h3 i (Nat.zero_le _) hi⟩
        · exact absurd (by omega) c_12
    | succ k ih =>
      intro x5 x6 hk least from_ hinv
      have hs := lt_slack hq (show k < e by omega) he.2
      simp only at hs
      have e1 := hpl k (by omega)
      have e2 := hpl e he.2
      have hle : least ≤ 2147483647 ∧ 0 ≤ least := by
        rcases hinv with ⟨-, rfl⟩ | ⟨a, -, rfl, h1, h2, h3⟩
        · omega
        · have := hfl a h2
          omega
      have hfk := hfl k (by omega)
      have hfek := hfe k (by omega)
      have htk := ht0 k (by omega)
      have hck := hcr k (by omega)
      have hal : lt_pr N law fee fr (me - (pl e - pl k - 1)) e = lt_c (N, wf, me, law, fee, fr) k e := by rw [e1, e2]; rfl
      have nxt : ∀ (least' from' : Int) (x5 x6 : Value), (∃ a : Nat, from' = (a : Int) ∧ least' = f a ∧ k ≤ a ∧ a < e ∧ ∀ i, k ≤ i → i < e → f a ≤ f i ∧ (i < a → f a < f i)) → eb_V mX3_settle (fun _ _ _ => True) 80 [.ref b, .int (eb_I (e : Int)), .int (eb_I least'), .int (eb_I from'), .int (eb_I (k : Int)), x5, x6] [] (n, 0, 0) h (eb_R mX3_settle (eb_X none n (eb_up (eb_up h (b + 2) (eb_ia 41 (eb_set to e (dp_t (lt_c (N, wf, me, law, fee, fr)) e)))) (b + 3) (eb_ia 41 (eb_set ow e (dp_o (lt_c (N, wf, me, law, fee, fr)) e)))))) := by
        intro least' from' x5 x6 hh
        refine V_iinc eX3_settle_80 rfl rfl (eb_sS (eb_sS (eb_sS (eb_sS eb_s0)))) ?_
        refine V_goto (tgt := 10) eX3_settle_83 rfl ?_
        exact ih _ _ (by omega) _ _ (Or.inr hh)
      have body : ∀ (x5 x6 : Value), eb_V mX3_settle (fun _ _ _ => True) 52 [.ref b, .int (eb_I (e : Int)), .int (eb_I least), .int (eb_I from_), .int (eb_I (k : Int)), x5, .int (eb_I (lt_c (N, wf, me, law, fee, fr) k e))] [] (n, 0, 0) h (eb_R mX3_settle (eb_X none n (eb_up (eb_up h (b + 2) (eb_ia 41 (eb_set to e (dp_t (lt_c (N, wf, me, law, fee, fr)) e)))) (b + 3) (eb_ia 41 (eb_set ow e (dp_o (lt_c (N, wf, me, law, fee, fr)) e)))))) := by
        intro x5 x6
        refine V_aload_n eX3_settle_52 rfl rfl ?_
        refine V_getf eX3_settle_53 H_this rfl ?_
        refine V_iload eX3_settle_56 rfl ?_
        refine V_iald eX3_settle_58 H_this_total (by omega) ?_
        simp only [Int.toNat_natCast]
        refine V_iload eX3_settle_59 rfl ?_
        refine V_iadd eX3_settle_61 ?_
        rw [← hfek]
        refine V_iload_n eX3_settle_62 rfl rfl ?_
        refine V_icmp_gt (tgt := 80) eX3_settle_63 rfl (by omega) (fun c_63 => ?_) (fun c_63 => ?_)
        · refine nxt _ _ _ _ ?_
          rcases hinv with ⟨h0, h1⟩ | ⟨a, h0, h1, h2, h3, h4⟩
          · omega
          · refine ⟨a, h0, h1, by omega, h3, fun i hi hi2 => ?_⟩
            rcases Nat.lt_or_ge k i with z | z
            · exact h4 i z hi2
            · have : i = k := by omega
              subst this
              exact ⟨by omega, fun _ => by omega⟩
        · refine V_aload_n eX3_settle_66 rfl rfl ?_
          refine V_getf eX3_settle_67 H_this rfl ?_
          refine V_iload eX3_settle_70 rfl ?_
          refine V_iald eX3_settle_72 H_this_total (by omega) ?_
          simp only [Int.toNat_natCast]
          refine V_iload eX3_settle_73 rfl ?_
          refine V_iadd eX3_settle_75 ?_
          rw [← hfek]
          refine V_istore_n eX3_settle_76 rfl (Nat.le_of_ble_eq_true rfl) rfl (eb_sS (eb_sS eb_s0)) ?_
          refine V_iload eX3_settle_77 rfl ?_
          refine V_istore_n eX3_settle_79 rfl (Nat.le_of_ble_eq_true rfl) rfl (eb_sS (eb_sS (eb_sS eb_s0))) ?_
          refine nxt _ _ _ _ ⟨k, rfl, rfl, Nat.le_refl _, by omega, fun i hi hi2 => ?_⟩
          rcases Nat.lt_or_ge k i with z | z
          · refine ⟨?_, fun q => by omega⟩
            rcases hinv with ⟨h0, h1⟩ | ⟨a, h0, h1, h2, h3, h4⟩
            · omega
            · have := (h4 i z hi2).1
              omega
          · have : i = k := by omega
            subst this
            exact ⟨Int.le_refl _, fun q => absurd q (by omega)⟩
      rw [show ((k + 1 : Nat) : Int) - 1 = (k : Int) by omega]
      refine V_iload eX3_settle_10 rfl ?_
      refine V_if_lt (tgt := 86) eX3_settle_12 rfl (by omega) (fun c_12 => ?_) (fun c_12 => ?_)
      · exact absurd c_12 (by omega)
      · refine V_aload_n eX3_settle_15 rfl rfl ?_
        refine V_getf eX3_settle_16 H_this rfl ?_
        refine V_aload_n eX3_settle_19 rfl rfl ?_
        refine V_iload eX3_settle_20 rfl ?_
        refine V_iload_n eX3_settle_22 rfl rfl ?_
        refine V_cvi eX3_settle_23 (c_X3_widthOf HL' (by omega) (by omega)) H_this rfl rfl (Nat.le_of_ble_eq_true rfl) ⟨rfl, rfl⟩ ⟨Nat.zero_le _, Nat.zero_le _⟩ ?_
        refine V_isub eX3_settle_26 ?_
        refine V_istore eX3_settle_27 (Nat.le_of_ble_eq_true rfl) rfl (eb_sS (eb_sS (eb_sS (eb_sS (eb_sS eb_s0))))) ?_
        refine V_aload_n eX3_settle_29 rfl rfl ?_
        refine V_iload eX3_settle_30 rfl ?_
        refine V_iload_n eX3_settle_32 rfl rfl ?_
        refine V_cvi eX3_settle_33 (c_X3_priceOf HL' hq.1 (by rw [e1, e2]; exact hs) (by omega)) H_this rfl rfl (Nat.le_of_ble_eq_true rfl) ⟨rfl, rfl⟩ ⟨Nat.zero_le _, Nat.zero_le _⟩ ?_
        rw [hal]
        refine V_istore eX3_settle_36 (Nat.le_of_ble_eq_true rfl) rfl (eb_sS (eb_sS (eb_sS (eb_sS (eb_sS (eb_sS eb_s0)))))) ?_
        refine V_iload eX3_settle_38 rfl ?_
        refine V_if_ge (tgt := 52) eX3_settle_40 rfl (by rw [e1, e2]; omega) (fun c_40 => ?_) (fun c_40 => ?_)
        · exact body _ (.int (eb_I 0))
        · refine V_iload eX3_settle_43 rfl ?_
          refine V_iload_n eX3_settle_45 rfl rfl ?_
          refine V_icmp_le (tgt := 52) eX3_settle_46 rfl (by omega) (fun c_46 => ?_) (fun c_46 => ?_)
          · exact body _ (.int (eb_I 0))
          · refine V_goto (tgt := 86) eX3_settle_49 rfl ?_
            rcases hinv with ⟨h0, h1⟩ | ⟨a, rfl, rfl, h2, h3, h4⟩
            · omega
            · refine fin a _ _ _ ⟨h3, fun i hi => ?_⟩
              rcases Nat.lt_or_ge k i with z | z
              · exact h4 i z hi
              · have w := lt_wide hq z (show k < e by omega) he.2 (by rw [e1, e2] at c_40; simp only; omega)
                have u := hfe i hi
                have v := ht0 i hi
                exact ⟨by omega, fun _ => by omega⟩
  refine V_ldc (a := 2147483647) eX3_settle_0 wd_319 (by decide) ?_
  refine V_istore_n eX3_settle_2 rfl (Nat.le_of_ble_eq_true rfl) rfl (eb_sS (eb_sS eb_s0)) ?_
  refine V_iconst eX3_settle_3 ?_
  refine V_istore_n eX3_settle_4 rfl (Nat.le_of_ble_eq_true rfl) rfl (eb_sS (eb_sS (eb_sS eb_s0))) ?_
  refine V_iload_n eX3_settle_5 rfl rfl ?_
  refine V_iconst eX3_settle_6 ?_
  refine V_isub eX3_settle_7 ?_
  refine V_istore eX3_settle_8 (Nat.le_of_ble_eq_true rfl) rfl (eb_sS (eb_sS (eb_sS (eb_sS eb_s0)))) ?_
  rw [show (e : Int) - 1 = ((e : Nat) : Int) - 1 from rfl]
  exact loop e _ _ (Nat.le_refl _) _ _ (Or.inl ⟨rfl, rfl⟩)
end LY2
