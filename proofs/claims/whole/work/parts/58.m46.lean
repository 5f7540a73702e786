/-! the model: judge, shift -/
section M46
variable {l : Launch} {E : hg_E} {d : Nat}
variable {I : Nat → Nat → Nat → Int32} {Lg : Nat → Nat → Nat → Int64} {Rf : Nat → Nat → Nat → Option (Nat × Nat)} {X : Nat × (Nat → Nat) × (Nat → Nat → Nat)}
variable {G : hs_G}variable {I' I1 : Nat → Nat → Nat → Int32} {Lg' Lg1 : Nat → Nat → Nat → Int64}
theorem hs_ix_a {m a i : Nat} (ha : a < 2 ^ 31) (hi : i < 6) (hm : m ≤ 60) (h : ¬ a + i < m) : hs_ix m (nI a + nI i) = none := by
  rw [nI_add]
  refine hs_ix_n (fun ⟨j, hj, e⟩ => ?_)
  have e := congrArg (fun z => z.toBitVec.toNat) e
  have h1 := pk_tn (show a + i < 2 ^ 32 by omega)
  have h2 := pk_tn (show j < 2 ^ 32 by omega)
  have e : (nI (a + i)).toBitVec.toNat = (nI j).toBitVec.toNat := e
  omega
theorem hs_al_i {m a b : Nat} (ha : a < 2 ^ 31) (hb : b < 2 ^ 31) (hm : m ≤ 60) : hs_al m (nI a) (nI b) = true ↔ a + b ≤ m := by
  refine hs_B_t.trans ⟨fun ⟨a2, b2, h1, h2, h3⟩ => ?_, fun h => ⟨a, b, rfl, rfl, h⟩⟩
  have e1 := (nI_eq hb (show b2 < 2 ^ 31 by omega)).mp h1
  have e2 := (nI_eq ha (show a2 < 2 ^ 31 by omega)).mp h2
  omega
theorem hs_al_f {m a b : Nat} (ha : a < 2 ^ 31) (hb : b < 2 ^ 31) (hm : m ≤ 60) (h : m < a + b) : hs_al m (nI a) (nI b) = false := Bool.eq_false_iff.mpr (fun z => by have := (hs_al_i ha hb hm).mp z; omega)
theorem hs_al_n {m : Nat} {x n : Int32} (hm : m ≤ 60) (h : n < 0 ∨ x < 0) : hs_al m x n = false := hs_B_f.mpr (fun ⟨a, b, h1, h2, h3⟩ => by
  subst h1 h2
  rcases h with h | h
  · exact absurd (nI_le (a := 0) (b := b) (Nat.zero_le _) (by omega)) (Int32.not_le.mpr h)
  · exact absurd (nI_le (a := 0) (b := a) (Nat.zero_le _) (by omega)) (Int32.not_le.mpr h))
theorem m_M_judge_loop {t a : Nat} (hX : hg_XS (gT G) X) (hR : hg_SR (gT G) Rf) (hM0 : hs_MR G I Lg) (hG : hs_gok G) (ht : t < 6) (hs0 : (gP G t).1 = 0) (ha : a < 2 ^ 31) : ∀ (k i : Nat), i + k = hs_n (gN G) → hg_WP l E (d + 1) Y_M_judge 0 0 35 [some (.ref (hg_ad E 21 0)), some (.int (nI t)), some (.int (nI a)), some (.int (nI i))] [] (I, Lg, Rf, X) (hg_i (fun v M' => v = sp_jd (gN G) (gP G t) (nI a) k i ∧ M' = (I, Lg, Rf, X))) := by
  have hM := hM0.1.1
  have hO := hG.1
  have hn6 := hO.1
  have hT := hM0.2.2.2.2.2.2.2
  have hw := hG.2.1
  have hPk := hG.2.2.2.2.2.2.2.2.2.2
  have hPt := hM0.2.2.2.2.2.2.1 t ht
  have hkt := hPk t ht
  have hszt := hkt.1
  intro k
  induction k with
  | zero =>
    intro i hik
    obtain rfl : i = hs_n (gN G) := by omega
    refine hg_iload3 d_M_judge_35 ?_
    refine hg_aload0 d_M_judge_36 ?_
    refine hg_getI d_M_judge_37 f_M_108 rfl rfl (hX.lt (n := 1) ⟨by decide, by decide⟩ rfl (by omega)) ?_
    refine hg_eq1 (y := nI (hs_n (gN G))) (hM.1) ?_
    refine hg_icmp_ge (tgt := 110) d_M_judge_40 (by decide) (fun h_1 => ?_) (fun h_1 => absurd (Int32.le_refl _) h_1)
    refine hg_bipush (v := (-5)) d_M_judge_110 (by decide) ?_
    refine hg_ireturn d_M_judge_112 rfl rfl ?_
    exact ⟨rfl, rfl⟩
  | succ k ih =>
    intro i hik
    have hst := hO.2.2.1 i (by omega)
    refine hg_iload3 d_M_judge_35 ?_
    refine hg_aload0 d_M_judge_36 ?_
    refine hg_getI d_M_judge_37 f_M_108 rfl rfl (hX.lt (n := 1) ⟨by decide, by decide⟩ rfl (by omega)) ?_
    refine hg_eq1 (y := nI (hs_n (gN G))) (hM.1) ?_
    refine hg_icmp_ge (tgt := 110) d_M_judge_40 (by decide) (fun h_2 => absurd h_2 (nI_ge (by omega) (by omega))) (fun h_2 => ?_)
    refine hg_aload0 d_M_judge_43 ?_
    refine hg_getR d_M_judge_44 f_M_94 rfl rfl (hX.lt (n := 1) ⟨by decide, by decide⟩ rfl (by omega)) (hR.m (j := 45) (q := (22, 26)) rfl) ?_
    refine hg_iload1 d_M_judge_47 ?_
    refine hg_iald_n (j := t) d_M_judge_48 rfl rfl (hX.lt (n := 28) ⟨by decide, by decide⟩ rfl (by omega)) (hX.jn (n := 6) (by decide) rfl (by omega)) ?_
    refine hg_eq1 (y := 0) (hPt.1.trans hs0) ?_
    refine hg_iconst (v := (-1)) d_M_judge_49 (by decide) ?_
    refine hg_icmp_eq (tgt := 73) d_M_judge_50 (by decide) (fun h_3 => absurd h_3 (by decide)) (fun h_3 => ?_)
    refine hg_iload2 d_M_judge_53 ?_
    refine hg_if_lt (tgt := 73) d_M_judge_54 (by decide) (fun h_4 => absurd h_4 (Int32.not_lt.mpr (nI_le (a := 0) (b := a) (Nat.zero_le _) (by omega)))) (fun h_4 => ?_)
    refine hg_iload2 d_M_judge_57 ?_
    refine hg_i2l d_M_judge_58 ?_
    rw [nI_l (n := a) (by omega)]
    refine hg_iload3 d_M_judge_59 ?_
    refine hg_i2l d_M_judge_60 ?_
    rw [nI_l (n := i) (by omega)]
    refine hg_ladd d_M_judge_61 ?_
    rw [lN_add]
    refine hg_aload0 d_M_judge_62 ?_
    refine hg_getR d_M_judge_63 f_M_97 rfl rfl (hX.lt (n := 1) ⟨by decide, by decide⟩ rfl (by omega)) (hR.m (j := 46) (q := (22, 27)) rfl) ?_
    refine hg_iload1 d_M_judge_66 ?_
    refine hg_iald_n (j := t) d_M_judge_67 rfl rfl (hX.lt (n := 28) ⟨by decide, by decide⟩ rfl (by omega)) (hX.jn (n := 6) (by decide) rfl (by omega)) ?_
    refine hg_eq1 (y := nI (gP G t).2.1) (hPt.2.1) ?_
    refine hg_i2l d_M_judge_68 ?_
    rw [nI_l (n := (gP G t).2.1) (by omega)]
    refine hg_lcmp d_M_judge_69 ?_
    refine hg_if_lt (tgt := 78) d_M_judge_70 (by decide) (fun hlt => ?_) (fun hlt => ?_)
    · have hlt2 := (lc_lt (by omega) (by omega)).mp hlt
      have hix : hs_ix (gP G t).2.1 (nI a + nI i) = some (a + i) := by rw [nI_add]; exact hs_ix_s hlt2 (by omega)
      refine hg_aload0 d_M_judge_78 ?_
      refine hg_getR d_M_judge_79 f_M_100 rfl rfl (hX.lt (n := 1) ⟨by decide, by decide⟩ rfl (by omega)) (hR.m (j := 47) (q := (23, 0)) rfl) ?_
      refine hg_bipush (v := 60) d_M_judge_82 (by decide) ?_
      refine hg_iload1 d_M_judge_84 ?_
      refine hg_imul d_M_judge_85 ?_
      refine hg_eq1 (y := nI (60 * t)) (pk_mul _ _) ?_
      refine hg_iload2 d_M_judge_86 ?_
      refine hg_iadd d_M_judge_87 ?_
      refine hg_eq1 (y := nI ((60 * t) + a)) (nI_add _ _) ?_
      refine hg_iload3 d_M_judge_88 ?_
      refine hg_iadd d_M_judge_89 ?_
      refine hg_eq1 (y := nI (((60 * t) + a) + i)) (nI_add _ _) ?_
      refine hg_lald_n (j := (((60 * t) + a) + i)) d_M_judge_90 rfl rfl (hX.lt (n := 1) ⟨by decide, by decide⟩ rfl (by omega)) (hX.jn (n := 360) (by decide) rfl (by omega)) ?_
      refine hg_aload0 d_M_judge_91 ?_
      refine hg_getR d_M_judge_92 f_M_36 rfl rfl (hX.lt (n := 1) ⟨by decide, by decide⟩ rfl (by omega)) (hR.m (j := 9) (q := (22, 8)) rfl) ?_
      refine hg_iload3 d_M_judge_95 ?_
      refine hg_iald_n (j := i) d_M_judge_96 rfl rfl (hX.lt (n := 28) ⟨by decide, by decide⟩ rfl (by omega)) (hX.jn (n := 6) (by decide) rfl (by omega)) ?_
      refine hg_eq1 (y := nI (hs_st (gN G) i)) (hM.2.2.2.2.2.2.1 i (by omega)) ?_
      refine hg_i2l d_M_judge_97 ?_
      refine hg_lcmp d_M_judge_98 ?_
      refine hg_if_eq (tgt := 104) d_M_judge_99 (by decide) (fun hq => ?_) (fun hq => ?_)
      · refine hg_iinc3 (v := nI (i + 1)) d_M_judge_104 rfl (nI_add _ _) ?_
        refine hg_goto (tgt := 35) d_M_judge_107 (by decide) ?_
        have hcell : Lg 23 0 (((60 * t) + a) + i) = (gP G t).2.2 (a + i) := by rw [show 60 * t + a + i = 60 * t + (a + i) by omega]; exact hPt.2.2 _ (by omega)
        have hu : sp_jd (gN G) (gP G t) (nI a) (k + 1) i = (match hs_ix (gP G t).2.1 (nI a + nI i) with | none => nI (100 + i) | some j => if (gP G t).2.2 j = (nI (hs_st (gN G) i)).toInt64 then sp_jd (gN G) (gP G t) (nI a) k (i + 1) else nI i) := rfl
        have e2 : sp_jd (gN G) (gP G t) (nI a) (k + 1) i = sp_jd (gN G) (gP G t) (nI a) k (i + 1) := by rw [hu, hix]; exact if_pos (hcell.symm.trans ((hs_lcmp _ _).mp hq))
        rw [e2]; exact ih (i + 1) (by omega)
      · refine hg_iload3 d_M_judge_102 ?_
        refine hg_ireturn d_M_judge_103 rfl rfl ?_
        refine ⟨?_, rfl⟩
        have hcell : Lg 23 0 (((60 * t) + a) + i) = (gP G t).2.2 (a + i) := by rw [show 60 * t + a + i = 60 * t + (a + i) by omega]; exact hPt.2.2 _ (by omega)
        have hu : sp_jd (gN G) (gP G t) (nI a) (k + 1) i = (match hs_ix (gP G t).2.1 (nI a + nI i) with | none => nI (100 + i) | some j => if (gP G t).2.2 j = (nI (hs_st (gN G) i)).toInt64 then sp_jd (gN G) (gP G t) (nI a) k (i + 1) else nI i) := rfl
        rw [hu, hix]
        show _ = (if _ then _ else _)
        rw [if_neg (fun z => hq ((hs_lcmp _ _).mpr (hcell.trans z)))]
    · have hlt2 : ¬ a + i < (gP G t).2.1 := fun z => hlt ((lc_lt (by omega) (by omega)).mpr z)
      have hix := hs_ix_a ha (show i < 6 by omega) hszt hlt2
      refine hg_bipush (v := 100) d_M_judge_73 (by decide) ?_
      refine hg_iload3 d_M_judge_75 ?_
      refine hg_iadd d_M_judge_76 ?_
      refine hg_eq1 (y := nI (100 + i)) (nI_add _ _) ?_
      refine hg_ireturn d_M_judge_77 rfl rfl ?_
      refine ⟨?_, rfl⟩
      have hu : sp_jd (gN G) (gP G t) (nI a) (k + 1) i = (match hs_ix (gP G t).2.1 (nI a + nI i) with | none => nI (100 + i) | some j => if (gP G t).2.2 j = (nI (hs_st (gN G) i)).toInt64 then sp_jd (gN G) (gP G t) (nI a) k (i + 1) else nI i) := rfl
      rw [hu, hix]
theorem m_M_judge {x y : Int32} (hX : hg_XS (gT G) X) (hR : hg_SR (gT G) Rf) (hM0 : hs_MR G I Lg) (hG : hs_gok G) : hg_MC l E (d + 3) Y_M_judge 0 0 [.ref (hg_ad E 21 0), .int x, .int y] (I, Lg, Rf, X) (hg_i (fun v M' => hs_MP v (sp_judge (gN G) (gP G) x y) G I Lg Rf X M')) := by
  have hM := hM0.1.1
  have hO := hG.1
  have hn6 := hO.1
  have hT := hM0.2.2.2.2.2.2.2
  have hw := hG.2.1
  have hPk := hG.2.2.2.2.2.2.2.2.2.2
  refine hg_mc k_M_judge (Nat.le_of_ble_eq_true rfl) ?_
  show hg_WP l E _ Y_M_judge 0 0 0 [some (.ref (hg_ad E 21 0)), some (.int x), some (.int y), none] [] (I, Lg, Rf, X) _
  refine hg_iload1 d_M_judge_0 ?_
  refine hg_iconst (v := 0) d_M_judge_1 (by decide) ?_
  refine hg_iconst (v := 5) d_M_judge_2 (by decide) ?_
  refine hg_cSi d_M_judge_3 l_M_111 rfl (Nat.le_of_ble_eq_true rfl) (m_M_in0 (b := 5) (by decide)) rfl ?_
  rintro _ _ ⟨⟨hta, rfl⟩ | ⟨hta, rfl⟩, rfl⟩
  · obtain ⟨t, ht0, et⟩ := hta
    have ht : t < 6 := by omega
    have ita : hs_ix 6 x = some t := by rw [et]; exact hs_ix_s ht (by decide)
    have hPt := hM0.2.2.2.2.2.2.1 t ht
    have hkt := hPk t ht
    have hszt := hkt.1
    subst et
    show hg_WP l E _ Y_M_judge 0 0 6 [some (.ref (hg_ad E 21 0)), some (.int (nI t)), some (.int y), none] [.int 1] (I, Lg, Rf, X) _
    refine hg_if_ne (tgt := 11) d_M_judge_6 (by decide) (fun h_1 => ?_) (fun h_1 => absurd (by decide) h_1)
    refine hg_aload0 d_M_judge_11 ?_
    refine hg_getR d_M_judge_12 f_M_94 rfl rfl (hX.lt (n := 1) ⟨by decide, by decide⟩ rfl (by omega)) (hR.m (j := 45) (q := (22, 26)) rfl) ?_
    refine hg_iload1 d_M_judge_15 ?_
    refine hg_iald_n (j := t) d_M_judge_16 rfl rfl (hX.lt (n := 28) ⟨by decide, by decide⟩ rfl (by omega)) (hX.jn (n := 6) (by decide) rfl (by omega)) ?_
    refine hg_eq1 (y := (gP G t).1) (hPt.1) ?_
    rcases hkt.2 with ⟨es, zs⟩ | ⟨k, hk5, es⟩
    · refine hg_eq1 (y := -1) es ?_
      refine hg_iconst (v := (-1)) d_M_judge_17 (by decide) ?_
      refine hg_icmp_eq (tgt := 33) d_M_judge_18 (by decide) (fun h_2 => ?_) (fun h_2 => absurd (by decide) h_2)
      refine hg_iconst (v := 0) d_M_judge_33 (by decide) ?_
      refine hg_istore3 d_M_judge_34 rfl ?_
      have hix : hs_ix (gP G t).2.1 (y + nI 0) = none := hs_ix_n (fun ⟨j, hj, _⟩ => by rw [zs] at hj; exact absurd hj (Nat.not_lt_zero _))
      refine hg_iload3 d_M_judge_35 ?_
      refine hg_aload0 d_M_judge_36 ?_
      refine hg_getI d_M_judge_37 f_M_108 rfl rfl (hX.lt (n := 1) ⟨by decide, by decide⟩ rfl (by omega)) ?_
      refine hg_eq1 (y := nI (hs_n (gN G))) (hM.1) ?_
      refine hg_icmp_ge (tgt := 110) d_M_judge_40 (by decide) (fun hn => ?_) (fun hn => ?_)
      · have hn0 : hs_n (gN G) = 0 := Nat.le_zero.mp (Nat.le_of_not_lt (fun z => nI_ge (a := 0) (b := hs_n (gN G)) z (by omega) hn))
        refine hg_bipush (v := (-5)) d_M_judge_110 (by decide) ?_
        refine hg_ireturn d_M_judge_112 rfl rfl ?_
        refine ⟨?_, I, Lg, rfl, hM0, fun _ _ => rfl, fun _ _ => rfl⟩
        simp only [sp_judge, ita]; rw [if_pos (show (gP G t).1 = 0 ∨ (gP G t).1 = -1 from Or.inr es)]
        rw [hn0]; rfl
      · obtain ⟨k2, hk2⟩ : ∃ k2, hs_n (gN G) = k2 + 1 := ⟨hs_n (gN G) - 1, by have : ¬ hs_n (gN G) = 0 := fun z => hn (by rw [z]; decide); omega⟩
        refine hg_aload0 d_M_judge_43 ?_
        refine hg_getR d_M_judge_44 f_M_94 rfl rfl (hX.lt (n := 1) ⟨by decide, by decide⟩ rfl (by omega)) (hR.m (j := 45) (q := (22, 26)) rfl) ?_
        refine hg_iload1 d_M_judge_47 ?_
        refine hg_iald_n (j := t) d_M_judge_48 rfl rfl (hX.lt (n := 28) ⟨by decide, by decide⟩ rfl (by omega)) (hX.jn (n := 6) (by decide) rfl (by omega)) ?_
        refine hg_eq1 (y := -1) (hPt.1.trans es) ?_
        refine hg_iconst (v := (-1)) d_M_judge_49 (by decide) ?_
        refine hg_icmp_eq (tgt := 73) d_M_judge_50 (by decide) (fun h_3 => ?_) (fun h_3 => absurd (by decide) h_3)
        refine hg_bipush (v := 100) d_M_judge_73 (by decide) ?_
        refine hg_iload3 d_M_judge_75 ?_
        refine hg_iadd d_M_judge_76 ?_
        refine hg_eq1 (y := 100) (by decide) ?_
        refine hg_ireturn d_M_judge_77 rfl rfl ?_
        refine ⟨?_, I, Lg, rfl, hM0, fun _ _ => rfl, fun _ _ => rfl⟩
        simp only [sp_judge, ita]; rw [if_pos (show (gP G t).1 = 0 ∨ (gP G t).1 = -1 from Or.inr es)]
        rw [hk2]; show _ = (match hs_ix (gP G t).2.1 (y + nI 0) with | none => nI (100 + 0) | some j => _); rw [hix]; rfl
    · rcases Nat.eq_zero_or_pos k with zk | zk
      · subst zk
        refine hg_eq1 (y := 0) es ?_
        refine hg_iconst (v := (-1)) d_M_judge_17 (by decide) ?_
        refine hg_icmp_eq (tgt := 33) d_M_judge_18 (by decide) (fun h_4 => absurd h_4 (by decide)) (fun h_4 => ?_)
        refine hg_aload0 d_M_judge_21 ?_
        refine hg_getR d_M_judge_22 f_M_94 rfl rfl (hX.lt (n := 1) ⟨by decide, by decide⟩ rfl (by omega)) (hR.m (j := 45) (q := (22, 26)) rfl) ?_
        refine hg_iload1 d_M_judge_25 ?_
        refine hg_iald_n (j := t) d_M_judge_26 rfl rfl (hX.lt (n := 28) ⟨by decide, by decide⟩ rfl (by omega)) (hX.jn (n := 6) (by decide) rfl (by omega)) ?_
        refine hg_eq1 (y := 0) (hPt.1.trans es) ?_
        refine hg_if_eq (tgt := 33) d_M_judge_27 (by decide) (fun h_5 => ?_) (fun h_5 => absurd (by decide) h_5)
        refine hg_iconst (v := 0) d_M_judge_33 (by decide) ?_
        refine hg_istore3 d_M_judge_34 rfl ?_
        by_cases hx : y < 0
        · have hix : hs_ix (gP G t).2.1 (y + nI 0) = none := by rw [show y + nI 0 = y from Int32.add_zero y]; exact hs_ix_neg (by omega) hx
          refine hg_iload3 d_M_judge_35 ?_
          refine hg_aload0 d_M_judge_36 ?_
          refine hg_getI d_M_judge_37 f_M_108 rfl rfl (hX.lt (n := 1) ⟨by decide, by decide⟩ rfl (by omega)) ?_
          refine hg_eq1 (y := nI (hs_n (gN G))) (hM.1) ?_
          refine hg_icmp_ge (tgt := 110) d_M_judge_40 (by decide) (fun hn => ?_) (fun hn => ?_)
          · have hn0 : hs_n (gN G) = 0 := Nat.le_zero.mp (Nat.le_of_not_lt (fun z => nI_ge (a := 0) (b := hs_n (gN G)) z (by omega) hn))
            refine hg_bipush (v := (-5)) d_M_judge_110 (by decide) ?_
            refine hg_ireturn d_M_judge_112 rfl rfl ?_
            refine ⟨?_, I, Lg, rfl, hM0, fun _ _ => rfl, fun _ _ => rfl⟩
            simp only [sp_judge, ita]; rw [if_pos (show (gP G t).1 = 0 ∨ (gP G t).1 = -1 from Or.inl es)]
            rw [hn0]; rfl
          · obtain ⟨k2, hk2⟩ : ∃ k2, hs_n (gN G) = k2 + 1 := ⟨hs_n (gN G) - 1, by have : ¬ hs_n (gN G) = 0 := fun z => hn (by rw [z]; decide); omega⟩
            refine hg_aload0 d_M_judge_43 ?_
            refine hg_getR d_M_judge_44 f_M_94 rfl rfl (hX.lt (n := 1) ⟨by decide, by decide⟩ rfl (by omega)) (hR.m (j := 45) (q := (22, 26)) rfl) ?_
            refine hg_iload1 d_M_judge_47 ?_
            refine hg_iald_n (j := t) d_M_judge_48 rfl rfl (hX.lt (n := 28) ⟨by decide, by decide⟩ rfl (by omega)) (hX.jn (n := 6) (by decide) rfl (by omega)) ?_
            refine hg_eq1 (y := 0) (hPt.1.trans es) ?_
            refine hg_iconst (v := (-1)) d_M_judge_49 (by decide) ?_
            refine hg_icmp_eq (tgt := 73) d_M_judge_50 (by decide) (fun h_6 => absurd h_6 (by decide)) (fun h_6 => ?_)
            refine hg_iload2 d_M_judge_53 ?_
            refine hg_if_lt (tgt := 73) d_M_judge_54 (by decide) (fun h_7 => ?_) (fun h_7 => absurd (hx) h_7)
            refine hg_bipush (v := 100) d_M_judge_73 (by decide) ?_
            refine hg_iload3 d_M_judge_75 ?_
            refine hg_iadd d_M_judge_76 ?_
            refine hg_eq1 (y := 100) (by decide) ?_
            refine hg_ireturn d_M_judge_77 rfl rfl ?_
            refine ⟨?_, I, Lg, rfl, hM0, fun _ _ => rfl, fun _ _ => rfl⟩
            simp only [sp_judge, ita]; rw [if_pos (show (gP G t).1 = 0 ∨ (gP G t).1 = -1 from Or.inl es)]
            rw [hk2]; show _ = (match hs_ix (gP G t).2.1 (y + nI 0) with | none => nI (100 + 0) | some j => _); rw [hix]; rfl
        · obtain ⟨a, ha, ea⟩ := nI_of hx
          subst ea
          refine hg_WP_imp (m_M_judge_loop hX hR hM0 hG ht es ha (hs_n (gN G)) 0 (Nat.zero_add _)) ?_
          rintro _ _ ⟨v, rfl, e, rfl⟩
          refine ⟨v, rfl, ?_, I, Lg, rfl, hM0, fun _ _ => rfl, fun _ _ => rfl⟩
          rw [e]; simp only [sp_judge, ita]; exact (if_pos (Or.inl es)).symm
      · refine hg_eq1 (y := nI k) es ?_
        have ns : ¬ ((gP G t).1 = 0 ∨ (gP G t).1 = -1) := fun z => z.elim (fun y => nI_ne0 zk (by omega) (es.symm.trans y)) (fun y => hs_nm1 (by omega) (es.symm.trans y))
        refine hg_iconst (v := (-1)) d_M_judge_17 (by decide) ?_
        refine hg_icmp_eq (tgt := 33) d_M_judge_18 (by decide) (fun h_8 => absurd h_8 (hs_nm1 (by omega))) (fun h_8 => ?_)
        refine hg_aload0 d_M_judge_21 ?_
        refine hg_getR d_M_judge_22 f_M_94 rfl rfl (hX.lt (n := 1) ⟨by decide, by decide⟩ rfl (by omega)) (hR.m (j := 45) (q := (22, 26)) rfl) ?_
        refine hg_iload1 d_M_judge_25 ?_
        refine hg_iald_n (j := t) d_M_judge_26 rfl rfl (hX.lt (n := 28) ⟨by decide, by decide⟩ rfl (by omega)) (hX.jn (n := 6) (by decide) rfl (by omega)) ?_
        refine hg_eq1 (y := nI k) (hPt.1.trans es) ?_
        refine hg_if_eq (tgt := 33) d_M_judge_27 (by decide) (fun h_9 => absurd h_9 (nI_ne0 zk (by omega))) (fun h_9 => ?_)
        refine hg_bipush (v := (-12)) d_M_judge_30 (by decide) ?_
        refine hg_ireturn d_M_judge_32 rfl rfl ?_
        refine ⟨?_, I, Lg, rfl, hM0, fun _ _ => rfl, fun _ _ => rfl⟩
        simp only [sp_judge, ita]; exact (if_neg ns).symm
  · have ita : hs_ix 6 x = none := hs_ix_n2 (b := 5) hta
    refine hg_if_ne (tgt := 11) d_M_judge_6 (by decide) (fun h_10 => absurd h_10 (by decide)) (fun h_10 => ?_)
    refine hg_iconst (v := (-1)) d_M_judge_9 (by decide) ?_
    refine hg_ireturn d_M_judge_10 rfl rfl ?_
    refine ⟨?_, I, Lg, rfl, hM0, fun _ _ => rfl, fun _ _ => rfl⟩
    simp [sp_judge, ita]

theorem m_M_shift_up {Q : Option Value → hg_M → Prop} {t u a c b : Nat} (hX : hg_XS (gT G) X) (hR : hg_SR (gT G) Rf) (ht : t < 6) (hu : u < 6) (hab : a + b ≤ 60) (hcb : c + b ≤ 60) (hno : t = u → c ≤ a) (K : ∀ (b6 : Option Value) (Lg2 : Nat → Nat → Nat → Int64), (∀ k q x, Lg2 k q x = if k = 23 ∧ q = 0 ∧ 60 * u + c ≤ x ∧ x < 60 * u + c + b then Lg 23 0 (60 * t + a + (x - (60 * u + c))) else Lg k q x) → hg_WP l E (d) Y_M_shift 0 0 212 [some (.ref (hg_ad E 21 0)), some (.int (nI t)), some (.int (nI a)), some (.int (nI u)), some (.int (nI c)), some (.int (nI b)), b6] [] (I, Lg2, Rf, X) (Q)) : ∀ (k r : Nat) (Lg1 : Nat → Nat → Nat → Int64), r + k = b → (∀ k q x, Lg1 k q x = if k = 23 ∧ q = 0 ∧ 60 * u + c ≤ x ∧ x < 60 * u + c + r then Lg 23 0 (60 * t + a + (x - (60 * u + c))) else Lg k q x) → hg_WP l E (d) Y_M_shift 0 0 170 [some (.ref (hg_ad E 21 0)), some (.int (nI t)), some (.int (nI a)), some (.int (nI u)), some (.int (nI c)), some (.int (nI b)), some (.int (nI r))] [] (I, Lg1, Rf, X) (Q) := by
  intro k
  induction k with
  | zero =>
    intro r Lg1 hrk hl
    obtain rfl : r = b := by omega
    refine hg_iload6 d_M_shift_170 ?_
    refine hg_iload5 d_M_shift_172 ?_
    refine hg_icmp_ge (tgt := 212) d_M_shift_174 (by decide) (fun h_1 => ?_) (fun h_1 => absurd (Int32.le_refl _) h_1)
    exact K _ Lg1 hl
  | succ k ih =>
    intro r Lg1 hrk hl
    refine hg_iload6 d_M_shift_170 ?_
    refine hg_iload5 d_M_shift_172 ?_
    refine hg_icmp_ge (tgt := 212) d_M_shift_174 (by decide) (fun h_2 => absurd h_2 (nI_ge (by omega) (by omega))) (fun h_2 => ?_)
    refine hg_aload0 d_M_shift_177 ?_
    refine hg_getR d_M_shift_178 f_M_100 rfl rfl (hX.lt (n := 1) ⟨by decide, by decide⟩ rfl (by omega)) (hR.m (j := 47) (q := (23, 0)) rfl) ?_
    refine hg_bipush (v := 60) d_M_shift_181 (by decide) ?_
    refine hg_iload3 d_M_shift_183 ?_
    refine hg_imul d_M_shift_184 ?_
    refine hg_eq1 (y := nI (60 * u)) (pk_mul _ _) ?_
    refine hg_iload4 d_M_shift_185 ?_
    refine hg_iadd d_M_shift_187 ?_
    refine hg_eq1 (y := nI ((60 * u) + c)) (nI_add _ _) ?_
    refine hg_iload6 d_M_shift_188 ?_
    refine hg_iadd d_M_shift_190 ?_
    refine hg_eq1 (y := nI (((60 * u) + c) + r)) (nI_add _ _) ?_
    refine hg_aload0 d_M_shift_191 ?_
    refine hg_getR d_M_shift_192 f_M_100 rfl rfl (hX.lt (n := 1) ⟨by decide, by decide⟩ rfl (by omega)) (hR.m (j := 47) (q := (23, 0)) rfl) ?_
    refine hg_bipush (v := 60) d_M_shift_195 (by decide) ?_
    refine hg_iload1 d_M_shift_197 ?_
    refine hg_imul d_M_shift_198 ?_
    refine hg_eq1 (y := nI (60 * t)) (pk_mul _ _) ?_
    refine hg_iload2 d_M_shift_199 ?_
    refine hg_iadd d_M_shift_200 ?_
    refine hg_eq1 (y := nI ((60 * t) + a)) (nI_add _ _) ?_
    refine hg_iload6 d_M_shift_201 ?_
    refine hg_iadd d_M_shift_203 ?_
    refine hg_eq1 (y := nI (((60 * t) + a) + r)) (nI_add _ _) ?_
    refine hg_lald_n (j := (((60 * t) + a) + r)) d_M_shift_204 rfl rfl (hX.lt (n := 1) ⟨by decide, by decide⟩ rfl (by omega)) (hX.jn (n := 360) (by decide) rfl (by omega)) ?_
    refine hg_last_n (j := (((60 * u) + c) + r)) d_M_shift_205 rfl rfl (hX.lt (n := 1) ⟨by decide, by decide⟩ rfl (by omega)) (hX.jn (n := 360) (by decide) rfl (by omega)) ?_
    refine hg_iinc6 (v := nI (r + 1)) d_M_shift_206 rfl (nI_add _ _) ?_
    refine hg_goto (tgt := 170) d_M_shift_209 (by decide) ?_
    have erd : Lg1 23 0 (60 * t + a + r) = Lg 23 0 (60 * t + a + r) := by rw [hl, if_neg (fun z => by have h1 := z.2.2.1; have h2 := z.2.2.2; by_cases e : t = u; (have := hno e; omega); omega)]
    refine ih (r + 1) _ (by omega) (fun k2 q x => ?_)
    unfold hg_u3
    by_cases z : k2 = 23 ∧ q = 0 ∧ x = 60 * u + c + r
    · rw [if_pos z, if_pos ⟨z.1, z.2.1, by omega, by omega⟩, erd, z.2.2, show 60 * u + c + r - (60 * u + c) = r by omega]
    · rw [if_neg z, hl]
      by_cases y : k2 = 23 ∧ q = 0 ∧ 60 * u + c ≤ x ∧ x < 60 * u + c + r
      · rw [if_pos y, if_pos ⟨y.1, y.2.1, by omega, by omega⟩]
      · rw [if_neg y, if_neg (fun v => y ⟨v.1, v.2.1, v.2.2.1, by have := v.2.2.2; have : x ≠ 60 * u + c + r := fun e => z ⟨v.1, v.2.1, e⟩; omega⟩)]
theorem m_M_shift_dn {Q : Option Value → hg_M → Prop} {t u a c b : Nat} (hX : hg_XS (gT G) X) (hR : hg_SR (gT G) Rf) (ht : t < 6) (hu : u < 6) (hab : a + b ≤ 60) (hcb : c + b ≤ 60) (hno : t = u → a < c) (K : ∀ (b6 : Option Value) (Lg2 : Nat → Nat → Nat → Int64), (∀ k q x, Lg2 k q x = if k = 23 ∧ q = 0 ∧ 60 * u + c ≤ x ∧ x < 60 * u + c + b then Lg 23 0 (60 * t + a + (x - (60 * u + c))) else Lg k q x) → hg_WP l E (d) Y_M_shift 0 0 212 [some (.ref (hg_ad E 21 0)), some (.int (nI t)), some (.int (nI a)), some (.int (nI u)), some (.int (nI c)), some (.int (nI b)), b6] [] (I, Lg2, Rf, X) (Q)) : ∀ (r : Nat) (Lg1 : Nat → Nat → Nat → Int64), r ≤ b → (∀ k q x, Lg1 k q x = if k = 23 ∧ q = 0 ∧ 60 * u + c + r ≤ x ∧ x < 60 * u + c + b then Lg 23 0 (60 * t + a + (x - (60 * u + c))) else Lg k q x) → hg_WP l E (d) Y_M_shift 0 0 124 [some (.ref (hg_ad E 21 0)), some (.int (nI t)), some (.int (nI a)), some (.int (nI u)), some (.int (nI c)), some (.int (nI b)), some (.int (nI r - 1))] [] (I, Lg1, Rf, X) (Q) := by
  intro r
  induction r with
  | zero =>
    intro Lg1 hrk hl
    refine hg_iload6 d_M_shift_124 ?_
    refine hg_if_lt (tgt := 164) d_M_shift_126 (by decide) (fun h_1 => ?_) (fun h_1 => absurd (by decide) h_1)
    refine hg_goto (tgt := 212) d_M_shift_164 (by decide) ?_
    exact K _ Lg1 hl
  | succ r ih =>
    intro Lg1 hrk hl
    rw [nI_pred r]
    refine hg_iload6 d_M_shift_124 ?_
    refine hg_if_lt (tgt := 164) d_M_shift_126 (by decide) (fun h_2 => absurd h_2 (Int32.not_lt.mpr (nI_le (a := 0) (b := r) (Nat.zero_le _) (by omega)))) (fun h_2 => ?_)
    refine hg_aload0 d_M_shift_129 ?_
    refine hg_getR d_M_shift_130 f_M_100 rfl rfl (hX.lt (n := 1) ⟨by decide, by decide⟩ rfl (by omega)) (hR.m (j := 47) (q := (23, 0)) rfl) ?_
    refine hg_bipush (v := 60) d_M_shift_133 (by decide) ?_
    refine hg_iload3 d_M_shift_135 ?_
    refine hg_imul d_M_shift_136 ?_
    refine hg_eq1 (y := nI (60 * u)) (pk_mul _ _) ?_
    refine hg_iload4 d_M_shift_137 ?_
    refine hg_iadd d_M_shift_139 ?_
    refine hg_eq1 (y := nI ((60 * u) + c)) (nI_add _ _) ?_
    refine hg_iload6 d_M_shift_140 ?_
    refine hg_iadd d_M_shift_142 ?_
    refine hg_eq1 (y := nI (((60 * u) + c) + r)) (nI_add _ _) ?_
    refine hg_aload0 d_M_shift_143 ?_
    refine hg_getR d_M_shift_144 f_M_100 rfl rfl (hX.lt (n := 1) ⟨by decide, by decide⟩ rfl (by omega)) (hR.m (j := 47) (q := (23, 0)) rfl) ?_
    refine hg_bipush (v := 60) d_M_shift_147 (by decide) ?_
    refine hg_iload1 d_M_shift_149 ?_
    refine hg_imul d_M_shift_150 ?_
    refine hg_eq1 (y := nI (60 * t)) (pk_mul _ _) ?_
    refine hg_iload2 d_M_shift_151 ?_
    refine hg_iadd d_M_shift_152 ?_
    refine hg_eq1 (y := nI ((60 * t) + a)) (nI_add _ _) ?_
    refine hg_iload6 d_M_shift_153 ?_
    refine hg_iadd d_M_shift_155 ?_
    refine hg_eq1 (y := nI (((60 * t) + a) + r)) (nI_add _ _) ?_
    refine hg_lald_n (j := (((60 * t) + a) + r)) d_M_shift_156 rfl rfl (hX.lt (n := 1) ⟨by decide, by decide⟩ rfl (by omega)) (hX.jn (n := 360) (by decide) rfl (by omega)) ?_
    refine hg_last_n (j := (((60 * u) + c) + r)) d_M_shift_157 rfl rfl (hX.lt (n := 1) ⟨by decide, by decide⟩ rfl (by omega)) (hX.jn (n := 360) (by decide) rfl (by omega)) ?_
    refine hg_iinc6 (v := (nI r) + (-1)) d_M_shift_158 rfl rfl ?_
    refine hg_goto (tgt := 124) d_M_shift_161 (by decide) ?_
    rw [show nI r + (-1) = nI r - 1 from (Int32.sub_eq_add_neg _ _).symm]
    have erd : Lg1 23 0 (60 * t + a + r) = Lg 23 0 (60 * t + a + r) := by rw [hl, if_neg (fun z => by have h1 := z.2.2.1; have h2 := z.2.2.2; by_cases e : t = u; (have := hno e; omega); omega)]
    refine ih _ (by omega) (fun k2 q x => ?_)
    unfold hg_u3
    by_cases z : k2 = 23 ∧ q = 0 ∧ x = 60 * u + c + r
    · rw [if_pos z, if_pos ⟨z.1, z.2.1, by omega, by omega⟩, erd, z.2.2, show 60 * u + c + r - (60 * u + c) = r by omega]
    · rw [if_neg z, hl]
      by_cases y : k2 = 23 ∧ q = 0 ∧ 60 * u + c + (r + 1) ≤ x ∧ x < 60 * u + c + b
      · rw [if_pos y, if_pos ⟨y.1, y.2.1, by omega, by omega⟩]
      · rw [if_neg y, if_neg (fun v => y ⟨v.1, v.2.1, by have := v.2.2.1; have : x ≠ 60 * u + c + r := fun e => z ⟨v.1, v.2.1, e⟩; omega, v.2.2.2⟩)]
theorem m_M_shift {x i y j n : Int32} (hX : hg_XS (gT G) X) (hR : hg_SR (gT G) Rf) (hM0 : hs_MR G I Lg) (hG : hs_gok G) : hg_MC l E (d + 3) Y_M_shift 0 0 [.ref (hg_ad E 21 0), .int x, .int i, .int y, .int j, .int n] (I, Lg, Rf, X) (hg_i (fun v M' => hs_MP v (so_shift G x i y j n).1 (so_shift G x i y j n).2 I Lg Rf X M')) := by
  have hM := hM0.1.1
  have hO := hG.1
  have hn6 := hO.1
  have hT := hM0.2.2.2.2.2.2.2
  have hw := hG.2.1
  have hPk := hG.2.2.2.2.2.2.2.2.2.2
  refine hg_mc k_M_shift (Nat.le_of_ble_eq_true rfl) ?_
  show hg_WP l E _ Y_M_shift 0 0 0 [some (.ref (hg_ad E 21 0)), some (.int x), some (.int i), some (.int y), some (.int j), some (.int n), none] [] (I, Lg, Rf, X) _
  refine hg_iload1 d_M_shift_0 ?_
  refine hg_cSi d_M_shift_1 l_M_324 rfl (Nat.le_of_ble_eq_true rfl) (m_M_isTape) rfl ?_
  rintro _ _ ⟨⟨hta, rfl⟩ | ⟨hta, rfl⟩, rfl⟩
  · obtain ⟨t, ht0, et⟩ := hta
    have ht : t < 6 := by omega
    have ita : hs_ix 6 x = some t := by rw [et]; exact hs_ix_s ht (by decide)
    have hPt := hM0.2.2.2.2.2.2.1 t ht
    have hkt := hPk t ht
    have hszt := hkt.1
    subst et
    show hg_WP l E _ Y_M_shift 0 0 4 [some (.ref (hg_ad E 21 0)), some (.int (nI t)), some (.int i), some (.int y), some (.int j), some (.int n), none] [.int 1] (I, Lg, Rf, X) _
    refine hg_if_eq (tgt := 14) d_M_shift_4 (by decide) (fun h_1 => absurd h_1 (by decide)) (fun h_1 => ?_)
    refine hg_iload3 d_M_shift_7 ?_
    refine hg_cSi d_M_shift_8 l_M_324 rfl (Nat.le_of_ble_eq_true rfl) (m_M_isTape) rfl ?_
    rintro _ _ ⟨⟨htb, rfl⟩ | ⟨htb, rfl⟩, rfl⟩
    · obtain ⟨u, hu0, eu⟩ := htb
      have hu : u < 6 := by omega
      have itb : hs_ix 6 y = some u := by rw [eu]; exact hs_ix_s hu (by decide)
      have hPu := hM0.2.2.2.2.2.2.1 u hu
      have hku := hPk u hu
      have hszu := hku.1
      subst eu
      show hg_WP l E _ Y_M_shift 0 0 11 [some (.ref (hg_ad E 21 0)), some (.int (nI t)), some (.int i), some (.int (nI u)), some (.int j), some (.int n), none] [.int 1] (I, Lg, Rf, X) _
      refine hg_if_ne (tgt := 16) d_M_shift_11 (by decide) (fun h_2 => ?_) (fun h_2 => absurd (by decide) h_2)
      refine hg_aload0 d_M_shift_16 ?_
      refine hg_getR d_M_shift_17 f_M_94 rfl rfl (hX.lt (n := 1) ⟨by decide, by decide⟩ rfl (by omega)) (hR.m (j := 45) (q := (22, 26)) rfl) ?_
      refine hg_iload1 d_M_shift_20 ?_
      refine hg_iald_n (j := t) d_M_shift_21 rfl rfl (hX.lt (n := 28) ⟨by decide, by decide⟩ rfl (by omega)) (hX.jn (n := 6) (by decide) rfl (by omega)) ?_
      refine hg_eq1 (y := (gP G t).1) (hPt.1) ?_
      rcases hkt.2 with ⟨es, zs⟩ | ⟨k1, hk15, es⟩
      · refine hg_eq1 (y := -1) es ?_
        refine hg_if_lt (tgt := 34) d_M_shift_22 (by decide) (fun h_3 => ?_) (fun h_3 => absurd (by decide) h_3)
        refine hg_bipush (v := (-11)) d_M_shift_34 (by decide) ?_
        refine hg_ireturn d_M_shift_36 rfl rfl ?_
        have hz : so_shift G (nI t) i (nI u) j n = (-11, G) := by simp [so_shift, ita, itb, es]
        rw [hz]
        exact ⟨rfl, I, Lg, rfl, hM0, fun _ _ => rfl, fun _ _ => rfl⟩
      · refine hg_eq1 (y := nI k1) es ?_
        have ns : ¬ (gP G t).1 = -1 := fun z => hs_nm1 (show k1 < 2 ^ 30 by omega) (es.symm.trans z)
        refine hg_if_lt (tgt := 34) d_M_shift_22 (by decide) (fun h_4 => absurd h_4 (Int32.not_lt.mpr (nI_le (a := 0) (b := k1) (Nat.zero_le _) (by omega)))) (fun h_4 => ?_)
        refine hg_aload0 d_M_shift_25 ?_
        refine hg_getR d_M_shift_26 f_M_94 rfl rfl (hX.lt (n := 1) ⟨by decide, by decide⟩ rfl (by omega)) (hR.m (j := 45) (q := (22, 26)) rfl) ?_
        refine hg_iload3 d_M_shift_29 ?_
        refine hg_iald_n (j := u) d_M_shift_30 rfl rfl (hX.lt (n := 28) ⟨by decide, by decide⟩ rfl (by omega)) (hX.jn (n := 6) (by decide) rfl (by omega)) ?_
        refine hg_eq1 (y := (gP G u).1) (hPu.1) ?_
        rcases hku.2 with ⟨er, zr⟩ | ⟨k2, hk25, er⟩
        · refine hg_eq1 (y := -1) er ?_
          refine hg_if_ge (tgt := 37) d_M_shift_31 (by decide) (fun h_5 => absurd h_5 (by decide)) (fun h_5 => ?_)
          refine hg_bipush (v := (-11)) d_M_shift_34 (by decide) ?_
          refine hg_ireturn d_M_shift_36 rfl rfl ?_
          have hz : so_shift G (nI t) i (nI u) j n = (-11, G) := by simp [so_shift, ita, itb, er]
          rw [hz]
          exact ⟨rfl, I, Lg, rfl, hM0, fun _ _ => rfl, fun _ _ => rfl⟩
        · refine hg_eq1 (y := nI k2) er ?_
          have nr : ¬ (gP G u).1 = -1 := fun z => hs_nm1 (show k2 < 2 ^ 30 by omega) (er.symm.trans z)
          refine hg_if_ge (tgt := 37) d_M_shift_31 (by decide) (fun h_6 => ?_) (fun h_6 => absurd (nI_le (a := 0) (b := k2) (Nat.zero_le _) (by omega)) h_6)
          refine hg_aload0 d_M_shift_37 ?_
          refine hg_getR d_M_shift_38 f_M_94 rfl rfl (hX.lt (n := 1) ⟨by decide, by decide⟩ rfl (by omega)) (hR.m (j := 45) (q := (22, 26)) rfl) ?_
          refine hg_iload1 d_M_shift_41 ?_
          refine hg_iald_n (j := t) d_M_shift_42 rfl rfl (hX.lt (n := 28) ⟨by decide, by decide⟩ rfl (by omega)) (hX.jn (n := 6) (by decide) rfl (by omega)) ?_
          refine hg_eq1 (y := nI k1) (hPt.1.trans es) ?_
          refine hg_aload0 d_M_shift_43 ?_
          refine hg_getR d_M_shift_44 f_M_94 rfl rfl (hX.lt (n := 1) ⟨by decide, by decide⟩ rfl (by omega)) (hR.m (j := 45) (q := (22, 26)) rfl) ?_
          refine hg_iload3 d_M_shift_47 ?_
          refine hg_iald_n (j := u) d_M_shift_48 rfl rfl (hX.lt (n := 28) ⟨by decide, by decide⟩ rfl (by omega)) (hX.jn (n := 6) (by decide) rfl (by omega)) ?_
          refine hg_eq1 (y := nI k2) (hPu.1.trans er) ?_
          refine hg_icmp_eq (tgt := 55) d_M_shift_49 (by decide) (fun hc => ?_) (fun hc => ?_)
          · have hcy : (gP G t).1 = (gP G u).1 := by rw [es, er]; exact hc
            refine hg_iload5 d_M_shift_55 ?_
            refine hg_if_lt (tgt := 104) d_M_shift_57 (by decide) (fun gn => ?_) (fun gn => ?_)
            · have hal := hs_al_n (m := (gP G t).2.1) (x := i) hszt (Or.inl gn)
              refine hg_bipush (v := (-13)) d_M_shift_104 (by decide) ?_
              refine hg_ireturn d_M_shift_106 rfl rfl ?_
              have hz : so_shift G (nI t) i (nI u) j n = (-13, G) := by
                unfold so_shift; rw [ita, itb]; simp only []; rw [if_neg (fun z => z.elim ns nr), if_pos hcy, if_neg (fun z => by have h1 := z.1; have h2 := z.2; rw [hal] at *; first | cases h1 | cases h2)]
              rw [hz]
              exact ⟨rfl, I, Lg, rfl, hM0, fun _ _ => rfl, fun _ _ => rfl⟩
            · refine hg_iload2 d_M_shift_60 ?_
              refine hg_if_lt (tgt := 104) d_M_shift_61 (by decide) (fun gi => ?_) (fun gi => ?_)
              · have hal := hs_al_n (m := (gP G t).2.1) (n := n) hszt (Or.inr gi)
                refine hg_bipush (v := (-13)) d_M_shift_104 (by decide) ?_
                refine hg_ireturn d_M_shift_106 rfl rfl ?_
                have hz : so_shift G (nI t) i (nI u) j n = (-13, G) := by
                  unfold so_shift; rw [ita, itb]; simp only []; rw [if_neg (fun z => z.elim ns nr), if_pos hcy, if_neg (fun z => by have h1 := z.1; have h2 := z.2; rw [hal] at *; first | cases h1 | cases h2)]
                rw [hz]
                exact ⟨rfl, I, Lg, rfl, hM0, fun _ _ => rfl, fun _ _ => rfl⟩
              · refine hg_iload4 d_M_shift_64 ?_
                refine hg_if_lt (tgt := 104) d_M_shift_66 (by decide) (fun gj => ?_) (fun gj => ?_)
                · have hal := hs_al_n (m := (gP G u).2.1) (n := n) hszu (Or.inr gj)
                  refine hg_bipush (v := (-13)) d_M_shift_104 (by decide) ?_
                  refine hg_ireturn d_M_shift_106 rfl rfl ?_
                  have hz : so_shift G (nI t) i (nI u) j n = (-13, G) := by
                    unfold so_shift; rw [ita, itb]; simp only []; rw [if_neg (fun z => z.elim ns nr), if_pos hcy, if_neg (fun z => by have h1 := z.1; have h2 := z.2; rw [hal] at *; first | cases h1 | cases h2)]
                  rw [hz]
                  exact ⟨rfl, I, Lg, rfl, hM0, fun _ _ => rfl, fun _ _ => rfl⟩
                · obtain ⟨b, hb, eb⟩ := nI_of gn
                  obtain ⟨a, ha, ea⟩ := nI_of gi
                  obtain ⟨c, hcc, ec⟩ := nI_of gj
                  subst eb ea ec
                  show hg_WP l E _ Y_M_shift 0 0 69 [some (.ref (hg_ad E 21 0)), some (.int (nI t)), some (.int (nI a)), some (.int (nI u)), some (.int (nI c)), some (.int (nI b)), none] [] (I, Lg, Rf, X) _
                  refine hg_iload2 d_M_shift_69 ?_
                  refine hg_i2l d_M_shift_70 ?_
                  rw [nI_l (n := a) (by omega)]
                  refine hg_iload5 d_M_shift_71 ?_
                  refine hg_i2l d_M_shift_73 ?_
                  rw [nI_l (n := b) (by omega)]
                  refine hg_ladd d_M_shift_74 ?_
                  rw [lN_add]
                  refine hg_aload0 d_M_shift_75 ?_
                  refine hg_getR d_M_shift_76 f_M_97 rfl rfl (hX.lt (n := 1) ⟨by decide, by decide⟩ rfl (by omega)) (hR.m (j := 46) (q := (22, 27)) rfl) ?_
                  refine hg_iload1 d_M_shift_79 ?_
                  refine hg_iald_n (j := t) d_M_shift_80 rfl rfl (hX.lt (n := 28) ⟨by decide, by decide⟩ rfl (by omega)) (hX.jn (n := 6) (by decide) rfl (by omega)) ?_
                  refine hg_eq1 (y := nI (gP G t).2.1) (hPt.2.1) ?_
                  refine hg_i2l d_M_shift_81 ?_
                  rw [nI_l (n := (gP G t).2.1) (by omega)]
                  refine hg_lcmp d_M_shift_82 ?_
                  refine hg_if_gt (tgt := 104) d_M_shift_83 (by decide) (fun hg1 => ?_) (fun hg1 => ?_)
                  · have hal := hs_al_f ha hb hszt ((lc_gt (by omega) (by omega)).mp hg1)
                    refine hg_bipush (v := (-13)) d_M_shift_104 (by decide) ?_
                    refine hg_ireturn d_M_shift_106 rfl rfl ?_
                    have hz : so_shift G (nI t) (nI a) (nI u) (nI c) (nI b) = (-13, G) := by
                      unfold so_shift; rw [ita, itb]; simp only []; rw [if_neg (fun z => z.elim ns nr), if_pos hcy, if_neg (fun z => by have h1 := z.1; have h2 := z.2; rw [hal] at *; first | cases h1 | cases h2)]
                    rw [hz]
                    exact ⟨rfl, I, Lg, rfl, hM0, fun _ _ => rfl, fun _ _ => rfl⟩
                  · have hab : a + b ≤ (gP G t).2.1 := Nat.le_of_not_lt (fun z => hg1 ((lc_gt (by omega) (by omega)).mpr z))
                    refine hg_iload4 d_M_shift_86 ?_
                    refine hg_i2l d_M_shift_88 ?_
                    rw [nI_l (n := c) (by omega)]
                    refine hg_iload5 d_M_shift_89 ?_
                    refine hg_i2l d_M_shift_91 ?_
                    rw [nI_l (n := b) (by omega)]
                    refine hg_ladd d_M_shift_92 ?_
                    rw [lN_add]
                    refine hg_aload0 d_M_shift_93 ?_
                    refine hg_getR d_M_shift_94 f_M_97 rfl rfl (hX.lt (n := 1) ⟨by decide, by decide⟩ rfl (by omega)) (hR.m (j := 46) (q := (22, 27)) rfl) ?_
                    refine hg_iload3 d_M_shift_97 ?_
                    refine hg_iald_n (j := u) d_M_shift_98 rfl rfl (hX.lt (n := 28) ⟨by decide, by decide⟩ rfl (by omega)) (hX.jn (n := 6) (by decide) rfl (by omega)) ?_
                    refine hg_eq1 (y := nI (gP G u).2.1) (hPu.2.1) ?_
                    refine hg_i2l d_M_shift_99 ?_
                    rw [nI_l (n := (gP G u).2.1) (by omega)]
                    refine hg_lcmp d_M_shift_100 ?_
                    refine hg_if_le (tgt := 107) d_M_shift_101 (by decide) (fun hg2 => ?_) (fun hg2 => ?_)
                    · have hcb : c + b ≤ (gP G u).2.1 := Nat.le_of_not_lt (fun z => absurd ((lc_gt (by omega) (by omega)).mpr z) (Int32.not_lt.mpr hg2))
                      refine hg_iload1 d_M_shift_107 ?_
                      refine hg_iload3 d_M_shift_108 ?_
                      refine hg_icmp_ne (tgt := 167) d_M_shift_109 (by decide) (fun htu => ?_) (fun htu => ?_)
                      · refine hg_iconst (v := 0) d_M_shift_167 (by decide) ?_
                        refine hg_istore6 d_M_shift_168 rfl ?_
                        have hno : t = u → c ≤ a := fun e => by first | exact absurd (by rw [e]) htu | exact (nI_leI (by omega) (by omega)).mp hij
                        refine m_M_shift_up (I := I) (d := d + 2) hX hR ht hu (by omega) (by omega) hno ?_ b 0 Lg (Nat.zero_add _) (fun k q x => (if_neg (fun z => by omega)).symm)
                        intro b6 Lg2 hl
                        refine hg_iload5 d_M_shift_212 ?_
                        refine hg_ireturn d_M_shift_214 rfl rfl ?_
                        have hz : so_shift G (nI t) (nI a) (nI u) (nI c) (nI b) = (nI b, gsP G u ((gP G u).1, (gP G u).2.1, fun q => if (nI c).toNatClampNeg ≤ q ∧ q < (nI c).toNatClampNeg + (nI b).toNatClampNeg then (gP G t).2.2 ((nI a).toNatClampNeg + (q - (nI c).toNatClampNeg)) else (gP G u).2.2 q)) := by
                          unfold so_shift; rw [ita, itb]; simp only []; rw [if_neg (fun z => z.elim ns nr), if_pos hcy, if_pos ⟨(hs_al_i ha hb hszt).mpr hab, (hs_al_i hcc hb hszu).mpr hcb⟩]
                        rw [hz]
                        rw [nI_clamp ha, nI_clamp hb, nI_clamp hcc]
                        have hlo : ∀ k, k < 21 → Lg2 k = Lg k := fun k hk => by funext q x; rw [hl, if_neg (fun z => by omega)]
                        refine ⟨rfl, I, Lg2, rfl, hM0.P (fun r a b => rfl) rfl (fun w hw hwu => ?_) ⟨hPu.1, hPu.2.1, fun q hq => ?_⟩, fun _ _ => rfl, hlo⟩
                        · have hPw := hM0.2.2.2.2.2.2.1 w hw
                          exact ⟨hPw.1, hPw.2.1, fun q hq => by rw [hl, if_neg (fun z => by omega)]; exact hPw.2.2 q hq⟩
                        · rw [hl]
                          show _ = (if c ≤ q ∧ q < c + b then (gP G t).2.2 (a + (q - c)) else (gP G u).2.2 q)
                          by_cases z : c ≤ q ∧ q < c + b
                          · rw [if_pos ⟨rfl, rfl, by omega, by omega⟩, if_pos z, show 60 * t + a + (60 * u + q - (60 * u + c)) = 60 * t + (a + (q - c)) by omega]; exact hPt.2.2 _ (by omega)
                          · rw [if_neg (fun y => z (by omega)), if_neg z]; exact hPu.2.2 q hq
                      · replace htu := Decidable.not_not.mp htu
                        refine hg_iload2 d_M_shift_112 ?_
                        refine hg_iload4 d_M_shift_113 ?_
                        refine hg_icmp_ge (tgt := 167) d_M_shift_115 (by decide) (fun hij => ?_) (fun hij => ?_)
                        · refine hg_iconst (v := 0) d_M_shift_167 (by decide) ?_
                          refine hg_istore6 d_M_shift_168 rfl ?_
                          have hno : t = u → c ≤ a := fun e => by first | exact absurd (by rw [e]) htu | exact (nI_leI (by omega) (by omega)).mp hij
                          refine m_M_shift_up (I := I) (d := d + 2) hX hR ht hu (by omega) (by omega) hno ?_ b 0 Lg (Nat.zero_add _) (fun k q x => (if_neg (fun z => by omega)).symm)
                          intro b6 Lg2 hl
                          refine hg_iload5 d_M_shift_212 ?_
                          refine hg_ireturn d_M_shift_214 rfl rfl ?_
                          have hz : so_shift G (nI t) (nI a) (nI u) (nI c) (nI b) = (nI b, gsP G u ((gP G u).1, (gP G u).2.1, fun q => if (nI c).toNatClampNeg ≤ q ∧ q < (nI c).toNatClampNeg + (nI b).toNatClampNeg then (gP G t).2.2 ((nI a).toNatClampNeg + (q - (nI c).toNatClampNeg)) else (gP G u).2.2 q)) := by
                            unfold so_shift; rw [ita, itb]; simp only []; rw [if_neg (fun z => z.elim ns nr), if_pos hcy, if_pos ⟨(hs_al_i ha hb hszt).mpr hab, (hs_al_i hcc hb hszu).mpr hcb⟩]
                          rw [hz]
                          rw [nI_clamp ha, nI_clamp hb, nI_clamp hcc]
                          have hlo : ∀ k, k < 21 → Lg2 k = Lg k := fun k hk => by funext q x; rw [hl, if_neg (fun z => by omega)]
                          refine ⟨rfl, I, Lg2, rfl, hM0.P (fun r a b => rfl) rfl (fun w hw hwu => ?_) ⟨hPu.1, hPu.2.1, fun q hq => ?_⟩, fun _ _ => rfl, hlo⟩
                          · have hPw := hM0.2.2.2.2.2.2.1 w hw
                            exact ⟨hPw.1, hPw.2.1, fun q hq => by rw [hl, if_neg (fun z => by omega)]; exact hPw.2.2 q hq⟩
                          · rw [hl]
                            show _ = (if c ≤ q ∧ q < c + b then (gP G t).2.2 (a + (q - c)) else (gP G u).2.2 q)
                            by_cases z : c ≤ q ∧ q < c + b
                            · rw [if_pos ⟨rfl, rfl, by omega, by omega⟩, if_pos z, show 60 * t + a + (60 * u + q - (60 * u + c)) = 60 * t + (a + (q - c)) by omega]; exact hPt.2.2 _ (by omega)
                            · rw [if_neg (fun y => z (by omega)), if_neg z]; exact hPu.2.2 q hq
                        · refine hg_iload5 d_M_shift_118 ?_
                          refine hg_iconst (v := 1) d_M_shift_120 (by decide) ?_
                          refine hg_isub d_M_shift_121 ?_
                          refine hg_istore6 d_M_shift_122 rfl ?_
                          have hno : t = u → a < c := fun _ => Nat.lt_of_not_le (fun z => hij (nI_le z (by omega)))
                          refine m_M_shift_dn (I := I) (d := d + 2) hX hR ht hu (by omega) (by omega) hno ?_ b Lg (Nat.le_refl _) (fun k q x => (if_neg (fun z => by omega)).symm)
                          intro b6 Lg2 hl
                          refine hg_iload5 d_M_shift_212 ?_
                          refine hg_ireturn d_M_shift_214 rfl rfl ?_
                          have hz : so_shift G (nI t) (nI a) (nI u) (nI c) (nI b) = (nI b, gsP G u ((gP G u).1, (gP G u).2.1, fun q => if (nI c).toNatClampNeg ≤ q ∧ q < (nI c).toNatClampNeg + (nI b).toNatClampNeg then (gP G t).2.2 ((nI a).toNatClampNeg + (q - (nI c).toNatClampNeg)) else (gP G u).2.2 q)) := by
                            unfold so_shift; rw [ita, itb]; simp only []; rw [if_neg (fun z => z.elim ns nr), if_pos hcy, if_pos ⟨(hs_al_i ha hb hszt).mpr hab, (hs_al_i hcc hb hszu).mpr hcb⟩]
                          rw [hz]
                          rw [nI_clamp ha, nI_clamp hb, nI_clamp hcc]
                          have hlo : ∀ k, k < 21 → Lg2 k = Lg k := fun k hk => by funext q x; rw [hl, if_neg (fun z => by omega)]
                          refine ⟨rfl, I, Lg2, rfl, hM0.P (fun r a b => rfl) rfl (fun w hw hwu => ?_) ⟨hPu.1, hPu.2.1, fun q hq => ?_⟩, fun _ _ => rfl, hlo⟩
                          · have hPw := hM0.2.2.2.2.2.2.1 w hw
                            exact ⟨hPw.1, hPw.2.1, fun q hq => by rw [hl, if_neg (fun z => by omega)]; exact hPw.2.2 q hq⟩
                          · rw [hl]
                            show _ = (if c ≤ q ∧ q < c + b then (gP G t).2.2 (a + (q - c)) else (gP G u).2.2 q)
                            by_cases z : c ≤ q ∧ q < c + b
                            · rw [if_pos ⟨rfl, rfl, by omega, by omega⟩, if_pos z, show 60 * t + a + (60 * u + q - (60 * u + c)) = 60 * t + (a + (q - c)) by omega]; exact hPt.2.2 _ (by omega)
                            · rw [if_neg (fun y => z (by omega)), if_neg z]; exact hPu.2.2 q hq
                    · have hal := hs_al_f hcc hb hszu ((lc_gt (by omega) (by omega)).mp (Int32.not_le.mp hg2))
                      refine hg_bipush (v := (-13)) d_M_shift_104 (by decide) ?_
                      refine hg_ireturn d_M_shift_106 rfl rfl ?_
                      have hz : so_shift G (nI t) (nI a) (nI u) (nI c) (nI b) = (-13, G) := by
                        unfold so_shift; rw [ita, itb]; simp only []; rw [if_neg (fun z => z.elim ns nr), if_pos hcy, if_neg (fun z => by have h1 := z.1; have h2 := z.2; rw [hal] at *; first | cases h1 | cases h2)]
                      rw [hz]
                      exact ⟨rfl, I, Lg, rfl, hM0, fun _ _ => rfl, fun _ _ => rfl⟩
          · have hcn : ¬ (gP G t).1 = (gP G u).1 := fun z => hc (by rw [← es, ← er, z])
            refine hg_bipush (v := (-12)) d_M_shift_52 (by decide) ?_
            refine hg_ireturn d_M_shift_54 rfl rfl ?_
            have hz : so_shift G (nI t) i (nI u) j n = (-12, G) := by simp [so_shift, ita, itb, ns, nr, hcn]
            rw [hz]
            exact ⟨rfl, I, Lg, rfl, hM0, fun _ _ => rfl, fun _ _ => rfl⟩
    · have itb : hs_ix 6 y = none := hs_ix_n2 (b := 5) htb
      refine hg_if_ne (tgt := 16) d_M_shift_11 (by decide) (fun h_7 => absurd h_7 (by decide)) (fun h_7 => ?_)
      refine hg_iconst (v := (-1)) d_M_shift_14 (by decide) ?_
      refine hg_ireturn d_M_shift_15 rfl rfl ?_
      have hz : so_shift G (nI t) i y j n = (-1, G) := by simp [so_shift, ita, itb]
      rw [hz]
      exact ⟨rfl, I, Lg, rfl, hM0, fun _ _ => rfl, fun _ _ => rfl⟩
  · have ita : hs_ix 6 x = none := hs_ix_n2 (b := 5) hta
    refine hg_if_eq (tgt := 14) d_M_shift_4 (by decide) (fun h_8 => ?_) (fun h_8 => absurd (by decide) h_8)
    refine hg_iconst (v := (-1)) d_M_shift_14 (by decide) ?_
    refine hg_ireturn d_M_shift_15 rfl rfl ?_
    have hz : so_shift G x i y j n = (-1, G) := by simp [so_shift, ita]
    rw [hz]
    exact ⟨rfl, I, Lg, rfl, hM0, fun _ _ => rfl, fun _ _ => rfl⟩

end M46
