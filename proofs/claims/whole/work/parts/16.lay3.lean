section LY3
variable {n : Nat} {h : eb_H} {b rt N bg : Nat} {me law fee fr lines : Int} {pl to ow lb ro : Nat → Int} {wf : Nat → Int}
theorem c_X3_layLines {o : Nat → Int} (HL : ly_at h b rt N me law fee fr lines bg pl to ow lb ro) (hrt : rt < b) (hN : N ≤ 40) (ho : br_ok o N) (how : ∀ e, 0 < e → e ≤ N → ow e = o e) :
    eb_T mX3_layLines [.ref b] n h (eb_G none n (fun h' => ∃ lb', ly_at h' b rt N me law fee fr ((br_F o N N).length : Int) (br_mk (br_F o N N)) pl to ow lb' ro ∧ (∀ k (hk : k < (br_F o N N).length), lb' k = ((br_F o N N)[k] : Int)) ∧ ly_fr h h' b)) := by
  refine eb_T.of (by decide +kernel) (Nat.le_of_ble_eq_true rfl) ?_
  show eb_V _ _ 0 [.ref b, eb_no, eb_no] [] (n, 0, 0) h _
  generalize hG : (fun h' => ∃ lb', ly_at h' b rt N me law fee fr ((br_F o N N).length : Int) (br_mk (br_F o N N)) pl to ow lb' ro ∧ (∀ k (hk : k < (br_F o N N).length), lb' k = ((br_F o N N)[k] : Int)) ∧ ly_fr h h' b) = G
  have HL' := HL
  obtain ⟨hup, hso⟩ := br_up ho N (Nat.le_refl _)
  have hlen := br_len hup hso
  generalize hB : br_F o N N = B at hG hup hso hlen
  have hmk : br_mk B < 2 ^ 41 := br_mk_lt (fun x hx => by have := hup x hx; omega)
  have loop2 : ∀ (d e m : Nat) (h2 : eb_H) (lb2 : Nat → Int) (l2 : Int) (x1 : Int32), l2 = (m : Int) → e + d = N → m ≤ B.length → (∀ k (hk : k < B.length), k < m → B[k] < e) → (∀ k (hk : k < B.length), m ≤ k → e ≤ B[k]) → (∀ k (hk : k < B.length), k < m → lb2 k = (B[k] : Int)) → ly_at h2 b rt N me law fee fr l2 (br_mk B) pl to ow lb2 ro → ly_fr h h2 b → eb_V mX3_layLines (fun _ _ _ => True) 56 [.ref b, .int x1, .int (eb_I (e : Int))] [] (n, 0, 0) h2 (eb_R mX3_layLines (eb_G none n G)) := by
    intro d
    induction d with
    | zero =>
      intro e m h2 lb2 l2 x1 hl hed hm g1 g2 g3 HL2 hfr
      have HL2' := HL2
      obtain ⟨H_this, H_this_place, H_this_total, H_this_owner, H_this_lineBegin, H_this_row, H_this_roots⟩ := HL2
      have hml : m = B.length := by
        rcases Nat.lt_or_ge m B.length with z | z
        · have u := g2 m z (Nat.le_refl _)
          have v := hup B[m] (List.getElem_mem z)
          omega
        · omega
      subst hml
      subst hl
      refine V_iload_n eX3_layLines_56 rfl rfl ?_
      refine V_aload_n eX3_layLines_57 rfl rfl ?_
      refine V_getf eX3_layLines_58 H_this rfl ?_
      refine V_icmp_ge (tgt := 98) eX3_layLines_61 rfl (by omega) (fun c_61 => ?_) (fun c_61 => ?_)
      · exact V_vret eX3_layLines_98 ⟨Nat.zero_le _, Nat.zero_le _⟩ rfl (⟨rfl, rfl, by rw [← hG]; exact ⟨lb2, HL2', fun k hk => g3 k hk hk, hfr⟩⟩)
      · exact absurd (by omega) c_61
    | succ d ih =>
      intro e m h2 lb2 l2 x1 hl hed hm g1 g2 g3 HL2 hfr
      have HL2' := HL2
      have hbit := br_mk_at B e
      obtain ⟨H_this, H_this_place, H_this_total, H_this_owner, H_this_lineBegin, H_this_row, H_this_roots⟩ := HL2
      by_cases hin : e ∈ B
      · rw [if_pos hin] at hbit
        obtain ⟨hmlt, hme⟩ := br_next hso g1 g2 hin
        have HL3 := ly_u0 (N' := N) (bg' := br_mk B) (me' := me) (law' := law) (fee' := fee) (fr' := fr) (lines' := l2 + 1) (ly_u4 (f := eb_set lb2 l2.toNat (e : Int)) HL2' hrt) hrt
        have hfr3 := (hfr.up (a := b + 4) (e := eb_ia 41 (eb_set lb2 l2.toNat (e : Int))) (by omega)).up (a := b) (e := ly_obj b rt N me law fee fr (l2 + 1) (br_mk B)) (by omega)
        refine V_iload_n eX3_layLines_56 rfl rfl ?_
        refine V_aload_n eX3_layLines_57 rfl rfl ?_
        refine V_getf eX3_layLines_58 H_this rfl ?_
        refine V_icmp_ge (tgt := 98) eX3_layLines_61 rfl (by omega) (fun c_61 => ?_) (fun c_61 => ?_)
        · exact absurd c_61 (by omega)
        · refine V_aload_n eX3_layLines_64 rfl rfl ?_
          refine V_iload_n eX3_layLines_65 rfl rfl ?_
          refine V_cvi eX3_layLines_66 (c_X3_isBegin HL2' (by omega) (by omega)) H_this rfl rfl (Nat.le_of_ble_eq_true rfl) ⟨rfl, rfl⟩ ⟨Nat.zero_le _, Nat.zero_le _⟩ ?_
          rw [hbit]
          refine V_if_eq (tgt := 92) eX3_layLines_69 rfl (by decide) (fun c_69 => ?_) (fun c_69 => ?_)
          · exact absurd c_69 (by decide)
          · refine V_aload_n eX3_layLines_72 rfl rfl ?_
            refine V_getf eX3_layLines_73 H_this rfl ?_
            refine V_aload_n eX3_layLines_76 rfl rfl ?_
            refine V_getf eX3_layLines_77 H_this rfl ?_
            refine V_iload_n eX3_layLines_80 rfl rfl ?_
            refine V_iast eX3_layLines_81 H_this_lineBegin (by omega) ?_
            refine V_aload_n eX3_layLines_82 rfl rfl ?_
            refine V_dup eX3_layLines_83 rfl ?_
            refine V_getf eX3_layLines_84 (eb_up_n (by omega) H_this) rfl ?_
            refine V_iconst eX3_layLines_87 ?_
            refine V_iadd eX3_layLines_88 ?_
            refine V_putf eX3_layLines_89 (eb_up_n (by omega) H_this) eb_fitI (eb_sS (eb_sS (eb_sS (eb_sS (eb_sS (eb_sS (eb_sS (eb_sS (eb_sS (eb_sS (eb_sS eb_s0))))))))))) (Nat.le_of_ble_eq_true rfl) ?_
            refine V_iinc eX3_layLines_92 rfl rfl (eb_sS (eb_sS eb_s0)) ?_
            refine V_goto (tgt := 56) eX3_layLines_95 rfl ?_
            refine ih (e + 1) (m + 1) _ (eb_set lb2 l2.toNat (e : Int)) (l2 + 1) x1 (by omega) (by omega) (by omega) (fun k hk hkm => ?_) (fun k hk hkm => ?_) (fun k hk hkm => ?_) HL3 hfr3
            · rcases Nat.lt_or_ge k m with z | z
              · have := g1 k hk z
                omega
              · have : k = m := by omega
                subst this
                omega
            · have := List.pairwise_iff_getElem.mp hso m k hmlt hk (by omega)
              omega
            · unfold eb_set
              rcases Nat.lt_or_ge k m with z | z
              · rw [if_neg (by omega)]
                exact g3 k hk z
              · have : k = m := by omega
                subst this
                rw [if_pos (by omega), hme]
      · rw [if_neg hin] at hbit
        refine V_iload_n eX3_layLines_56 rfl rfl ?_
        refine V_aload_n eX3_layLines_57 rfl rfl ?_
        refine V_getf eX3_layLines_58 H_this rfl ?_
        refine V_icmp_ge (tgt := 98) eX3_layLines_61 rfl (by omega) (fun c_61 => ?_) (fun c_61 => ?_)
        · exact absurd c_61 (by omega)
        · refine V_aload_n eX3_layLines_64 rfl rfl ?_
          refine V_iload_n eX3_layLines_65 rfl rfl ?_
          refine V_cvi eX3_layLines_66 (c_X3_isBegin HL2' (by omega) (by omega)) H_this rfl rfl (Nat.le_of_ble_eq_true rfl) ⟨rfl, rfl⟩ ⟨Nat.zero_le _, Nat.zero_le _⟩ ?_
          rw [hbit]
          refine V_if_eq (tgt := 92) eX3_layLines_69 rfl (by decide) (fun c_69 => ?_) (fun c_69 => ?_)
          · refine V_iinc eX3_layLines_92 rfl rfl (eb_sS (eb_sS eb_s0)) ?_
            refine V_goto (tgt := 56) eX3_layLines_95 rfl ?_
            refine ih (e + 1) m h2 lb2 l2 x1 hl (by omega) hm (fun k hk hkm => ?_) (fun k hk hkm => ?_) g3 HL2' hfr
            · have := g1 k hk hkm
              omega
            · have u := g2 k hk hkm
              rcases Nat.lt_or_ge e B[k] with z | z
              · exact z
              · have : B[k] = e := by omega
                exact absurd (this ▸ List.getElem_mem hk) hin
          · exact absurd rfl c_69
  have loop1 : ∀ (m e k : Nat) (h1 : eb_H) (bg1 : Nat), e ≤ m → k + e ≤ N → br_mk (br_F o e e) ||| bg1 = br_mk B → bg1 < 2 ^ 41 → ly_at h1 b rt N me law fee fr lines bg1 pl to ow lb ro → ly_fr h h1 b → eb_V mX3_layLines (fun _ _ _ => True) 12 [.ref b, .int (eb_I (e : Int)), .int (eb_I (k : Int))] [] (n, 0, 0) h1 (eb_R mX3_layLines (eb_G none n G)) := by
    intro m
    induction m with
    | zero =>
      intro e k h1 bg1 he hke hmk1 hb1 HL1 hfr
      have he0 : e = 0 := by omega
      subst he0
      have hbg : bg1 = br_mk B := by rw [← hmk1]; simp [br_F, br_mk]
      subst hbg
      have HL3 := ly_u0 (N' := N) (bg' := br_mk B) (me' := me) (law' := law) (fee' := fee) (fr' := fr) (lines' := 0) HL1 hrt
      have hfr3 := hfr.up (a := b) (e := ly_obj b rt N me law fee fr 0 (br_mk B)) (by omega)
      obtain ⟨H_this, H_this_place, H_this_total, H_this_owner, H_this_lineBegin, H_this_row, H_this_roots⟩ := HL1
      have J : ∀ x : Value, eb_V mX3_layLines (fun _ _ _ => True) 49 [.ref b, .int (eb_I ((0 : Nat) : Int)), x] [] (n, 0, 0) h1 (eb_R mX3_layLines (eb_G none n G)) := by
        intro x
        refine V_aload_n eX3_layLines_49 rfl rfl ?_
        refine V_iconst eX3_layLines_50 ?_
        refine V_putf eX3_layLines_51 H_this eb_fitI (eb_sS (eb_sS (eb_sS (eb_sS (eb_sS (eb_sS (eb_sS (eb_sS (eb_sS (eb_sS (eb_sS eb_s0))))))))))) (Nat.le_of_ble_eq_true rfl) ?_
        refine V_iconst eX3_layLines_54 ?_
        refine V_istore_n eX3_layLines_55 rfl (Nat.le_of_ble_eq_true rfl) rfl (eb_sS (eb_sS eb_s0)) ?_
        exact loop2 N 0 0 _ lb 0 _ rfl (by omega) (by omega) (fun k hk hkm => absurd hkm (by omega)) (fun k hk hkm => Nat.zero_le _) (fun k hk hkm => absurd hkm (by omega)) HL3 hfr3
      refine V_iload_n eX3_layLines_12 rfl rfl ?_
      refine V_aload_n eX3_layLines_13 rfl rfl ?_
      refine V_getf eX3_layLines_14 H_this rfl ?_
      refine V_icmp_ge (tgt := 49) eX3_layLines_17 rfl (by omega) (fun c_17 => ?_) (fun c_17 => ?_)
      · exact J _
      · refine V_iload_n eX3_layLines_20 rfl rfl ?_
        refine V_if_le (tgt := 49) eX3_layLines_21 rfl (by omega) (fun c_21 => ?_) (fun c_21 => ?_)
        · exact J _
        · exact absurd (by omega) c_21
    | succ m ih =>
      intro e k h1 bg1 he hke hmk1 hb1 HL1 hfr
      rcases Nat.lt_or_ge m e with z | z
      · have hp : 0 < e := by omega
        have hst := br_step ho hp (by omega)
        have hoe := ho e hp (by omega)
        have hwe := how e hp (by omega)
        have HL1' := HL1
        obtain ⟨H_this, H_this_place, H_this_total, H_this_owner, H_this_lineBegin, H_this_row, H_this_roots⟩ := HL1
        obtain ⟨a, ha⟩ : ∃ a : Nat, o e = (a : Int) := ⟨(o e).toNat, by omega⟩
        rw [ha] at hst hwe hoe
        simp only [Int.toNat_natCast] at hst
        rw [hst, br_mk_app] at hmk1
        have hpa : (2 : Nat) ^ a < 2 ^ 41 := Nat.pow_lt_pow_right (by decide) (by omega)
        have hor : bg1 ||| 1 * 2 ^ a < 2 ^ 41 := by rw [Nat.one_mul]; exact Nat.or_lt_two_pow hb1 hpa
        have HL3 := ly_u0 (N' := N) (bg' := bg1 ||| 1 * 2 ^ a) (me' := me) (law' := law) (fee' := fee) (fr' := fr) (lines' := lines) HL1' hrt
        have hfr3 := hfr.up (a := b) (e := ly_obj b rt N me law fee fr lines (bg1 ||| 1 * 2 ^ a)) (by omega)
        have hih := ih a (k + 1) _ (bg1 ||| 1 * 2 ^ a) (by omega) (by omega) (by rw [Nat.one_mul, ← hmk1, Nat.or_assoc, Nat.or_comm bg1]) hor HL3 hfr3
        refine V_iload_n eX3_layLines_12 rfl rfl ?_
        refine V_aload_n eX3_layLines_13 rfl rfl ?_
        refine V_getf eX3_layLines_14 H_this rfl ?_
        refine V_icmp_ge (tgt := 49) eX3_layLines_17 rfl (by omega) (fun c_17 => ?_) (fun c_17 => ?_)
        · exact absurd c_17 (by omega)
        · refine V_iload_n eX3_layLines_20 rfl rfl ?_
          refine V_if_le (tgt := 49) eX3_layLines_21 rfl (by omega) (fun c_21 => ?_) (fun c_21 => ?_)
          · exact absurd c_21 (by omega)
          · refine V_aload_n eX3_layLines_24 rfl rfl ?_
            refine V_getf eX3_layLines_25 H_this rfl ?_
            refine V_iload_n eX3_layLines_28 rfl rfl ?_
            refine V_iald eX3_layLines_29 H_this_owner (by omega) ?_
            rw [show ((e : Nat) : Int).toNat = e from Int.toNat_natCast e, hwe]
            refine V_istore_n eX3_layLines_30 rfl (Nat.le_of_ble_eq_true rfl) rfl (eb_sS eb_s0) ?_
            refine V_aload_n eX3_layLines_31 rfl rfl ?_
            refine V_dup eX3_layLines_32 rfl ?_
            refine V_getf eX3_layLines_33 H_this rfl ?_
            refine V_lconst (b := 1) eX3_layLines_36 (by decide) ?_
            refine V_iload_n eX3_layLines_37 rfl rfl ?_
            refine V_lshl eX3_layLines_38 (eb_shl (a := 1) (by omega)) ?_
            refine V_lor eX3_layLines_39 (eb_or (by omega) (by omega)) ?_
            refine V_putf eX3_layLines_40 H_this eb_fitJ (eb_sS (eb_sS (eb_sS (eb_sS (eb_sS (eb_sS (eb_sS (eb_sS (eb_sS (eb_sS (eb_sS (eb_sS eb_s0)))))))))))) (Nat.le_of_ble_eq_true rfl) ?_
            refine V_iinc eX3_layLines_43 rfl rfl (eb_sS (eb_sS eb_s0)) ?_
            refine V_goto (tgt := 12) eX3_layLines_46 rfl ?_
            exact hih
      · exact ih e k h1 bg1 z hke hmk1 hb1 HL1 hfr
  have HL3 := ly_u0 (N' := N) (bg' := 0) (me' := me) (law' := law) (fee' := fee) (fr' := fr) (lines' := lines) HL' hrt
  obtain ⟨H_this, H_this_place, H_this_total, H_this_owner, H_this_lineBegin, H_this_row, H_this_roots⟩ := HL
  refine V_aload_n eX3_layLines_0 rfl rfl ?_
  refine V_lconst (b := 0) eX3_layLines_1 (by decide) ?_
  refine V_putf eX3_layLines_2 H_this eb_fitJ (eb_sS (eb_sS (eb_sS (eb_sS (eb_sS (eb_sS (eb_sS (eb_sS (eb_sS (eb_sS (eb_sS (eb_sS eb_s0)))))))))))) (Nat.le_of_ble_eq_true rfl) ?_
  refine V_aload_n eX3_layLines_5 rfl rfl ?_
  refine V_getf eX3_layLines_6 eb_up_s rfl ?_
  refine V_istore_n eX3_layLines_9 rfl (Nat.le_of_ble_eq_true rfl) rfl (eb_sS eb_s0) ?_
  refine V_iconst eX3_layLines_10 ?_
  refine V_istore_n eX3_layLines_11 rfl (Nat.le_of_ble_eq_true rfl) rfl (eb_sS (eb_sS eb_s0)) ?_
  exact loop1 N N 0 _ 0 (Nat.le_refl _) (by omega) (by rw [hB]; simp) (by decide) HL3 (ly_fr.rf.up (by omega))
end LY3
