/-! the model: when it comes to one, of, doors -/
section M38
variable {l : Launch} {E : hg_E} {d T : Nat}
variable {I : Nat → Nat → Nat → Int32} {Lg : Nat → Nat → Nat → Int64} {Rf : Nat → Nat → Nat → Option (Nat × Nat)} {X : Nat × (Nat → Nat) × (Nat → Nat → Nat)}
variable {I' I1 : Nat → Nat → Nat → Int32} {Lg' : Nat → Nat → Nat → Int64} {σ τ : hs_S} {tw : hs_W} {a0 a2 a4 : hs_L} {G : hs_G}
theorem m_M_ct_end {p : Nat} {w : Int32} {b3 : Option Value} {I2 : Nat → Nat → Nat → Int32} (hX : hg_XS T X) (hR : hg_SR T Rf) (hO : hs_ok T σ) (hw : hs_wk σ ≤ 9999) (hb : hs_Lb σ a0 a2 a4) (hi : hs_MI σ a0 a2 a4 (I2 22 24)) (hs : hm_s I2 I) : hg_WP l E (d + 7) Y_M_comesTo 0 0 49 [some (.ref (hg_ad E 21 0)), some (.int (nI p)), some (.int w), b3] [] (I2, Lg, Rf, X) (hg_i (fun v M' => v = w ∧ ∃ I' : Nat → Nat → Nat → Int32, M' = (I', Lg, Rf, X) ∧ hs_MG σ a0 a2 a4 I' ∧ hm_s I' I)) := by
  refine hg_aload0 d_M_comesTo_49 ?_
  refine hg_aload0 d_M_comesTo_50 ?_
  refine hg_getR d_M_comesTo_51 f_M_88 rfl rfl (hX.lt (n := 1) ⟨by decide, by decide⟩ rfl (by omega)) (hR.m (j := 43) (q := (22, 24)) rfl) ?_
  refine hg_cVv d_M_comesTo_54 l_M_267 rfl rfl (hX.lt (n := 1) ⟨by decide, by decide⟩ rfl (by omega)) rfl (Nat.le_of_ble_eq_true rfl) (m_M_again24_ hX hR hi hb) rfl ?_
  rintro _ ⟨I3, rfl, g3, hk3⟩
  refine hg_iload2 d_M_comesTo_57 ?_
  refine hg_ireturn d_M_comesTo_58 rfl rfl ?_
  exact ⟨rfl, I3, rfl, g3, hk3.s.tr hs⟩
theorem m_M_ct_loop {p : Nat} (hX : hg_XS T X) (hR : hg_SR T Rf) (hO : hs_ok T σ) (hw : hs_wk σ ≤ 9999) (hT : hs_MT T tw I) (hM : hs_MG σ a0 a2 a4 I) (hb : hs_Lb σ a0 a2 a4) (hp : p < hs_n σ) : ∀ (k i : Nat) (I2 : Nat → Nat → Nat → Int32), i + k = 61 → hs_MS (hs_th tw σ (i - 1)) I2 → hm_s I2 I → hs_MI σ a0 a2 a4 (I2 22 24) → hg_WP l E (d + 7) Y_M_comesTo 0 0 13 [some (.ref (hg_ad E 21 0)), some (.int (nI p)), some (.int (-5)), some (.int (nI i))] [] (I2, Lg, Rf, X) (hg_i (fun v M' => v = (sp_cm tw σ p k i) ∧ ∃ I' : Nat → Nat → Nat → Int32, M' = (I', Lg, Rf, X) ∧ hs_MG σ a0 a2 a4 I' ∧ hm_s I' I)) := by
  have hn6 := hO.1
  intro k
  induction k with
  | zero =>
    intro i I2 hik hM2 hs hi
    obtain rfl : i = 61 := by omega
    refine hg_iload3 d_M_comesTo_13 ?_
    refine hg_bipush (v := 61) d_M_comesTo_14 (by decide) ?_
    refine hg_icmp_ge (tgt := 49) d_M_comesTo_16 (by decide) (fun h_1 => ?_) (fun h_1 => absurd (by decide) h_1)
    exact m_M_ct_end hX hR hO hw hb hi hs
  | succ k ih =>
    intro i I2 hik hM2 hs hi
    have K33 : ∀ I3 : Nat → Nat → Nat → Int32, hs_MS (hs_th tw σ i) I3 → hm_s I3 I → hs_MI σ a0 a2 a4 (I3 22 24) → hg_WP l E (d + 7) Y_M_comesTo 0 0 33 [some (.ref (hg_ad E 21 0)), some (.int (nI p)), some (.int (-5)), some (.int (nI i))] [] (I3, Lg, Rf, X) (hg_i (fun v M' => v = (sp_cm tw σ p (k + 1) i) ∧ ∃ I' : Nat → Nat → Nat → Int32, M' = (I', Lg, Rf, X) ∧ hs_MG σ a0 a2 a4 I' ∧ hm_s I' I)) := by
      intro I3 hM3 hs3 hi3
      obtain ⟨hO3, hw3, hn3, -⟩ := hs_th_all (tw := tw) hO i
      refine hg_aload0 d_M_comesTo_33 ?_
      refine hg_cVi d_M_comesTo_34 l_M_254 rfl rfl (hX.lt (n := 1) ⟨by decide, by decide⟩ rfl (by omega)) rfl (Nat.le_of_ble_eq_true rfl) (m_M_host hX hR hM3 hO3 (hT.s hs3) (by omega)) rfl ?_
      rintro _ _ ⟨rfl, I4, rfl, hq4⟩
      have hle : ∀ x, hs_ho tw (hs_th tw σ i) = some x → x < 6 := fun x hx => by have := hs_ho_lt hO3 hx; omega
      have hi4 : hs_MI σ a0 a2 a4 (I4 22 24) := by rw [hq4 22 (by decide)]; exact hi3
      refine hg_iload1 d_M_comesTo_37 ?_
      refine hg_icmp_ne (tgt := 43) d_M_comesTo_38 (by decide) (fun hh => ?_) (fun hh => ?_)
      · refine hg_iinc3 (v := nI (i + 1)) d_M_comesTo_43 rfl (nI_add _ _) ?_
        refine hg_goto (tgt := 13) d_M_comesTo_46 (by decide) ?_
        rw [show sp_cm tw σ p (k + 1) i = sp_cm tw σ p k (i + 1) from if_neg (fun z => hh ((hs_h5_eq hle (by omega)).mpr z))]
        refine ih (i + 1) I4 (by omega) ?_ (hq4.s.tr hs3) hi4
        exact hM3.e hq4
      · replace hh := Decidable.not_not.mp hh
        refine hg_iload3 d_M_comesTo_41 ?_
        refine hg_istore2 d_M_comesTo_42 rfl ?_
        refine hg_iinc3 (v := nI (i + 1)) d_M_comesTo_43 rfl (nI_add _ _) ?_
        refine hg_goto (tgt := 13) d_M_comesTo_46 (by decide) ?_
        rw [show sp_cm tw σ p (k + 1) i = nI i from if_pos ((hs_h5_eq hle (by omega)).mp hh)]
        refine hg_iload3 d_M_comesTo_13 ?_
        refine hg_bipush (v := 61) d_M_comesTo_14 (by decide) ?_
        refine hg_icmp_ge (tgt := 49) d_M_comesTo_16 (by decide) (fun h_2 => ?_) (fun h_2 => ?_)
        · exact m_M_ct_end hX hR hO hw hb hi4 (hq4.s.tr hs3)
        · refine hg_iload2 d_M_comesTo_19 ?_
          refine hg_bipush (v := (-5)) d_M_comesTo_20 (by decide) ?_
          refine hg_icmp_ne (tgt := 49) d_M_comesTo_22 (by decide) (fun h_3 => ?_) (fun h_3 => absurd (fun z => absurd z (by rw [show (-5 : Int32) = -nI 5 from rfl]; intro z; have := congrArg Int32.toInt z; rw [nI_toInt (by omega)] at this; exact absurd this (by rw [show (-nI 5 : Int32).toInt = -5 by decide]; omega))) h_3)
          exact m_M_ct_end hX hR hO hw hb hi4 (hq4.s.tr hs3)
    refine hg_iload3 d_M_comesTo_13 ?_
    refine hg_bipush (v := 61) d_M_comesTo_14 (by decide) ?_
    refine hg_icmp_ge (tgt := 49) d_M_comesTo_16 (by decide) (fun h_4 => absurd h_4 (nI_ge (a := i) (b := 61) (by omega) (by decide))) (fun h_4 => ?_)
    refine hg_iload2 d_M_comesTo_19 ?_
    refine hg_bipush (v := (-5)) d_M_comesTo_20 (by decide) ?_
    refine hg_icmp_ne (tgt := 49) d_M_comesTo_22 (by decide) (fun h_5 => absurd h_5 (by decide)) (fun h_5 => ?_)
    refine hg_iload3 d_M_comesTo_25 ?_
    refine hg_if_le (tgt := 33) d_M_comesTo_26 (by decide) (fun h0 => ?_) (fun h0 => ?_)
    · have hi0 : i = 0 := Nat.le_zero.mp (Nat.le_of_not_lt (fun z => nI_ge (a := 0) (b := i) z (by omega) h0))
      refine K33 I2 ?_ hs hi
      rw [hi0] at hM2 ⊢; exact hM2
    · have hi0 : 0 < i := Nat.pos_of_ne_zero (fun z => h0 (by rw [z]; decide))
      obtain ⟨hO1, hw1, -, -⟩ := hs_th_all (tw := tw) hO (i - 1)
      refine hg_aload0 d_M_comesTo_29 ?_
      refine hg_cVv d_M_comesTo_30 l_M_257 rfl rfl (hX.lt (n := 1) ⟨by decide, by decide⟩ rfl (by omega)) rfl (Nat.le_of_ble_eq_true rfl) (m_M_goesThursday hX hR hM2 hO1 (hT.s hs) (by omega)) rfl ?_
      rintro _ ⟨I3, rfl, hM3, ht3⟩
      refine K33 I3 ?_ (ht3.s.tr hs) (by rw [ht3.2.2 24 (by decide)]; exact hi)
      have e : i = (i - 1) + 1 := by omega
      rw [e]; exact hM3
theorem m_M_comesTo {p : Nat} (hX : hg_XS T X) (hR : hg_SR T Rf) (hO : hs_ok T σ) (hw : hs_wk σ ≤ 9999) (hT : hs_MT T tw I) (hM : hs_MG σ a0 a2 a4 I) (hb : hs_Lb σ a0 a2 a4) (hp : p < hs_n σ) : hg_MC l E (d + 8) Y_M_comesTo 0 0 [.ref (hg_ad E 21 0), .int (nI p)] (I, Lg, Rf, X) (hg_i (fun v M' => v = sp_cm tw σ p 61 0 ∧ ∃ I' : Nat → Nat → Nat → Int32, M' = (I', Lg, Rf, X) ∧ hs_MG σ a0 a2 a4 I' ∧ hm_s I' I)) := by
  refine hg_mc k_M_comesTo (Nat.le_of_ble_eq_true rfl) ?_
  show hg_WP l E _ Y_M_comesTo 0 0 0 [some (.ref (hg_ad E 21 0)), some (.int (nI p)), none, none] [] (I, Lg, Rf, X) _
  refine hg_aload0 d_M_comesTo_0 ?_
  refine hg_aload0 d_M_comesTo_1 ?_
  refine hg_getR d_M_comesTo_2 f_M_88 rfl rfl (hX.lt (n := 1) ⟨by decide, by decide⟩ rfl (by omega)) (hR.m (j := 43) (q := (22, 24)) rfl) ?_
  refine hg_cVv d_M_comesTo_5 l_M_263 rfl rfl (hX.lt (n := 1) ⟨by decide, by decide⟩ rfl (by omega)) rfl (Nat.le_of_ble_eq_true rfl) (m_M_keep24_ hX hR hM hb) rfl ?_
  rintro _ ⟨I1, rfl, hk, hi⟩
  have g1 := hM.r hk (by decide)
  have hT1 := hT.s (hk.s (Or.inl rfl))
  refine hg_bipush (v := (-5)) d_M_comesTo_8 (by decide) ?_
  refine hg_istore2 d_M_comesTo_10 rfl ?_
  refine hg_iconst (v := 0) d_M_comesTo_11 (by decide) ?_
  refine hg_istore3 d_M_comesTo_12 rfl ?_
  refine hg_WP_imp (m_M_ct_loop hX hR hO hw hT1 g1 hb hp 61 0 I1 (by omega) g1.1 hm_s.rf hi) ?_
  rintro _ _ ⟨v, rfl, e, I', e2, g, h⟩; exact ⟨v, rfl, e, I', e2, g, h.tr (hk.s (Or.inl rfl))⟩

theorem m_M_of {x w : Int32} (hX : hg_XS (gT G) X) (hR : hg_SR (gT G) Rf) (hM0 : hs_MR G I Lg) (hG : hs_gok G) : hg_MC l E (d + 9) Y_M_of 0 0 [.ref (hg_ad E 21 0), .int x, .int w] (I, Lg, Rf, X) (hg_i (fun v M' => hs_MP v (sp_of (gW G) (gN G) x w) G I Lg Rf X M')) := by
  have hM := hM0.1.1
  have hO := hG.1
  have hn6 := hO.1
  have hT := hM0.2.2.2.2.2.2.2
  have hw := hG.2.1
  have hL0 := hG.2.2.2.1 0 (by decide)
  have hL2 := hG.2.2.2.1 2 (by decide)
  have hL4 := hG.2.2.2.1 4 (by decide)
  replace hL0 : (gL G 0).1 ≤ 5 := hL0
  replace hL2 : (gL G 2).1 ≤ 10 := hL2
  replace hL4 : (gL G 4).1 ≤ 8 := hL4
  have hLb : hs_Lb (gN G) (gL G 0) (gL G 2) (gL G 4) := ⟨hn6, hL0, hL2, hL4⟩
  refine hg_mc k_M_of (Nat.le_of_ble_eq_true rfl) ?_
  show hg_WP l E _ Y_M_of 0 0 0 [some (.ref (hg_ad E 21 0)), some (.int x), some (.int w)] [] (I, Lg, Rf, X) _
  refine hg_aload0 d_M_of_0 ?_
  refine hg_iload1 d_M_of_1 ?_
  refine hg_cVi d_M_of_2 l_M_115 rfl rfl (hX.lt (n := 1) ⟨by decide, by decide⟩ rfl (by omega)) rfl (Nat.le_of_ble_eq_true rfl) (m_M_isOne hX hM.1 hn6) rfl ?_
  rintro _ _ ⟨⟨hha, rfl⟩ | ⟨hha, rfl⟩, rfl⟩
  · obtain ⟨h, hh, eh⟩ := hha
    have iha : hs_ix (hs_n (gN G)) x = some h := by rw [eh]; exact hs_ix_s hh (by omega)
    subst eh
    show hg_WP l E _ Y_M_of 0 0 5 [some (.ref (hg_ad E 21 0)), some (.int (nI h)), some (.int w)] [.int 1] (I, Lg, Rf, X) _
    refine hg_if_ne (tgt := 12) d_M_of_5 (by decide) (fun h_1 => ?_) (fun h_1 => absurd (by decide) h_1)
    refine hg_iload2 d_M_of_12 ?_
    rcases hg_sw11 w with hsw | ⟨j, hj, rfl⟩
    · refine hg_tabO (tgt := 153) d_M_of_13 (hsw) (by decide) ?_
      refine hg_sipush (v := (-10001)) d_M_of_153 (by decide) ?_
      refine hg_ireturn d_M_of_156 rfl rfl ?_
      refine ⟨?_, I, Lg, rfl, hM0, fun _ _ => rfl, fun _ _ => rfl⟩
      unfold sp_of; rw [iha]; simp only []
      have hne : ∀ j : Nat, j < 11 → w ≠ nI j := fun j hj e => by rw [e, nI_toInt (by omega)] at hsw; omega
      rw [if_neg (show ¬ w = 0 from hne 0 (by decide)), if_neg (show ¬ w = 1 from hne 1 (by decide)), if_neg (show ¬ w = 2 from hne 2 (by decide)), if_neg (show ¬ w = 3 from hne 3 (by decide)), if_neg (show ¬ w = 4 from hne 4 (by decide)), if_neg (show ¬ w = 5 from hne 5 (by decide)), if_neg (show ¬ w = 6 from hne 6 (by decide)), if_neg (show ¬ w = 7 from hne 7 (by decide)), if_neg (show ¬ w = 8 from hne 8 (by decide)), if_neg (show ¬ w = 9 from hne 9 (by decide)), if_neg (show ¬ w = 10 from hne 10 (by decide))]
    · have h11 : j = 0 ∨ j = 1 ∨ j = 2 ∨ j = 3 ∨ j = 4 ∨ j = 5 ∨ j = 6 ∨ j = 7 ∨ j = 8 ∨ j = 9 ∨ j = 10 := by omega
      rcases h11 with rfl | rfl | rfl | rfl | rfl | rfl | rfl | rfl | rfl | rfl | rfl
      · refine hg_tabI (off := 59) (tgt := 72) d_M_of_13 (by decide) (by decide) rfl (by decide) ?_
        refine hg_aload0 d_M_of_72 ?_
        refine hg_getR d_M_of_73 f_M_9 rfl rfl (hX.lt (n := 1) ⟨by decide, by decide⟩ rfl (by omega)) (hR.m (j := 1) (q := (22, 0)) rfl) ?_
        refine hg_iload1 d_M_of_76 ?_
        refine hg_iald_n (j := h) d_M_of_77 rfl rfl (hX.lt (n := 28) ⟨by decide, by decide⟩ rfl (by omega)) (hX.jn (n := 6) (by decide) rfl (by omega)) ?_
        refine hg_eq1 (y := hs_hv (gN G) h 0) (hM.2.2.2.2.2.2.2.1 h 0 (by assumption) (by decide)) ?_
        refine hg_ireturn d_M_of_78 rfl rfl ?_
        refine ⟨?_, I, Lg, rfl, hM0, fun _ _ => rfl, fun _ _ => rfl⟩
        unfold sp_of; rw [iha]; simp [nI]
      · refine hg_tabI (off := 66) (tgt := 79) d_M_of_13 (by decide) (by decide) rfl (by decide) ?_
        refine hg_aload0 d_M_of_79 ?_
        refine hg_getR d_M_of_80 f_M_15 rfl rfl (hX.lt (n := 1) ⟨by decide, by decide⟩ rfl (by omega)) (hR.m (j := 2) (q := (22, 1)) rfl) ?_
        refine hg_iload1 d_M_of_83 ?_
        refine hg_iald_n (j := h) d_M_of_84 rfl rfl (hX.lt (n := 28) ⟨by decide, by decide⟩ rfl (by omega)) (hX.jn (n := 6) (by decide) rfl (by omega)) ?_
        refine hg_eq1 (y := hs_hv (gN G) h 1) (hM.2.2.2.2.2.2.2.1 h 1 (by assumption) (by decide)) ?_
        refine hg_ireturn d_M_of_85 rfl rfl ?_
        refine ⟨?_, I, Lg, rfl, hM0, fun _ _ => rfl, fun _ _ => rfl⟩
        unfold sp_of; rw [iha]; simp [nI]
      · refine hg_tabI (off := 73) (tgt := 86) d_M_of_13 (by decide) (by decide) rfl (by decide) ?_
        refine hg_aload0 d_M_of_86 ?_
        refine hg_getR d_M_of_87 f_M_18 rfl rfl (hX.lt (n := 1) ⟨by decide, by decide⟩ rfl (by omega)) (hR.m (j := 3) (q := (22, 2)) rfl) ?_
        refine hg_iload1 d_M_of_90 ?_
        refine hg_iald_n (j := h) d_M_of_91 rfl rfl (hX.lt (n := 28) ⟨by decide, by decide⟩ rfl (by omega)) (hX.jn (n := 6) (by decide) rfl (by omega)) ?_
        refine hg_eq1 (y := hs_hv (gN G) h 2) (hM.2.2.2.2.2.2.2.1 h 2 (by assumption) (by decide)) ?_
        refine hg_ireturn d_M_of_92 rfl rfl ?_
        refine ⟨?_, I, Lg, rfl, hM0, fun _ _ => rfl, fun _ _ => rfl⟩
        unfold sp_of; rw [iha]; simp [nI]
      · refine hg_tabI (off := 80) (tgt := 93) d_M_of_13 (by decide) (by decide) rfl (by decide) ?_
        refine hg_aload0 d_M_of_93 ?_
        refine hg_getR d_M_of_94 f_M_21 rfl rfl (hX.lt (n := 1) ⟨by decide, by decide⟩ rfl (by omega)) (hR.m (j := 4) (q := (22, 3)) rfl) ?_
        refine hg_iload1 d_M_of_97 ?_
        refine hg_iald_n (j := h) d_M_of_98 rfl rfl (hX.lt (n := 28) ⟨by decide, by decide⟩ rfl (by omega)) (hX.jn (n := 6) (by decide) rfl (by omega)) ?_
        refine hg_eq1 (y := hs_hv (gN G) h 3) (hM.2.2.2.2.2.2.2.1 h 3 (by assumption) (by decide)) ?_
        refine hg_ireturn d_M_of_99 rfl rfl ?_
        refine ⟨?_, I, Lg, rfl, hM0, fun _ _ => rfl, fun _ _ => rfl⟩
        unfold sp_of; rw [iha]; simp [nI]
      · refine hg_tabI (off := 87) (tgt := 100) d_M_of_13 (by decide) (by decide) rfl (by decide) ?_
        refine hg_aload0 d_M_of_100 ?_
        refine hg_getR d_M_of_101 f_M_24 rfl rfl (hX.lt (n := 1) ⟨by decide, by decide⟩ rfl (by omega)) (hR.m (j := 5) (q := (22, 4)) rfl) ?_
        refine hg_iload1 d_M_of_104 ?_
        refine hg_iald_n (j := h) d_M_of_105 rfl rfl (hX.lt (n := 28) ⟨by decide, by decide⟩ rfl (by omega)) (hX.jn (n := 6) (by decide) rfl (by omega)) ?_
        refine hg_eq1 (y := hs_hv (gN G) h 4) (hM.2.2.2.2.2.2.2.1 h 4 (by assumption) (by decide)) ?_
        refine hg_ireturn d_M_of_106 rfl rfl ?_
        refine ⟨?_, I, Lg, rfl, hM0, fun _ _ => rfl, fun _ _ => rfl⟩
        unfold sp_of; rw [iha]; simp [nI]
      · refine hg_tabI (off := 94) (tgt := 107) d_M_of_13 (by decide) (by decide) rfl (by decide) ?_
        refine hg_aload0 d_M_of_107 ?_
        refine hg_getR d_M_of_108 f_M_27 rfl rfl (hX.lt (n := 1) ⟨by decide, by decide⟩ rfl (by omega)) (hR.m (j := 6) (q := (22, 5)) rfl) ?_
        refine hg_iload1 d_M_of_111 ?_
        refine hg_iald_n (j := h) d_M_of_112 rfl rfl (hX.lt (n := 28) ⟨by decide, by decide⟩ rfl (by omega)) (hX.jn (n := 6) (by decide) rfl (by omega)) ?_
        refine hg_eq1 (y := hs_hv (gN G) h 5) (hM.2.2.2.2.2.2.2.1 h 5 (by assumption) (by decide)) ?_
        refine hg_ireturn d_M_of_113 rfl rfl ?_
        refine ⟨?_, I, Lg, rfl, hM0, fun _ _ => rfl, fun _ _ => rfl⟩
        unfold sp_of; rw [iha]; simp [nI]
      · refine hg_tabI (off := 101) (tgt := 114) d_M_of_13 (by decide) (by decide) rfl (by decide) ?_
        refine hg_aload0 d_M_of_114 ?_
        refine hg_getR d_M_of_115 f_M_30 rfl rfl (hX.lt (n := 1) ⟨by decide, by decide⟩ rfl (by omega)) (hR.m (j := 7) (q := (22, 6)) rfl) ?_
        refine hg_iload1 d_M_of_118 ?_
        refine hg_iald_n (j := h) d_M_of_119 rfl rfl (hX.lt (n := 28) ⟨by decide, by decide⟩ rfl (by omega)) (hX.jn (n := 6) (by decide) rfl (by omega)) ?_
        refine hg_eq1 (y := hs_hv (gN G) h 6) (hM.2.2.2.2.2.2.2.1 h 6 (by assumption) (by decide)) ?_
        refine hg_ireturn d_M_of_120 rfl rfl ?_
        refine ⟨?_, I, Lg, rfl, hM0, fun _ _ => rfl, fun _ _ => rfl⟩
        unfold sp_of; rw [iha]; simp [nI]
      · refine hg_tabI (off := 108) (tgt := 121) d_M_of_13 (by decide) (by decide) rfl (by decide) ?_
        refine hg_aload0 d_M_of_121 ?_
        refine hg_iload1 d_M_of_122 ?_
        refine hg_cVi d_M_of_123 l_M_119 rfl rfl (hX.lt (n := 1) ⟨by decide, by decide⟩ rfl (by omega)) rfl (Nat.le_of_ble_eq_true rfl) (m_M_dread hX hR hM hO hT hh (by omega)) rfl ?_
        rintro _ _ ⟨rfl, I2, rfl, hq2⟩
        refine hg_ireturn d_M_of_126 rfl rfl ?_
        refine ⟨?_, I2, Lg, rfl, hM0.Z (hM0.1.e hq2) hq2.s, hq2.s.lo, fun _ _ => rfl⟩
        unfold sp_of; rw [iha]; simp [nI]
      · refine hg_tabI (off := 114) (tgt := 127) d_M_of_13 (by decide) (by decide) rfl (by decide) ?_
        refine hg_aload0 d_M_of_127 ?_
        refine hg_iload1 d_M_of_128 ?_
        refine hg_cVi d_M_of_129 l_M_123 rfl rfl (hX.lt (n := 1) ⟨by decide, by decide⟩ rfl (by omega)) rfl (Nat.le_of_ble_eq_true rfl) (m_M_isIll hX hR hM hO hT hh (by omega)) rfl ?_
        rintro _ _ ⟨rfl, I2, rfl, hq2⟩
        by_cases hI : hs_illb (gW G) (gN G) h = true
        · refine hg_eq1 (y := 1) (if_pos hI) ?_
          refine hg_if_eq (tgt := 139) d_M_of_132 (by decide) (fun h_2 => absurd h_2 (by decide)) (fun h_2 => ?_)
          refine hg_iconst (v := 1) d_M_of_135 (by decide) ?_
          refine hg_goto (tgt := 140) d_M_of_136 (by decide) ?_
          refine hg_ireturn d_M_of_140 rfl rfl ?_
          refine ⟨?_, I2, Lg, rfl, hM0.Z (hM0.1.e hq2) hq2.s, hq2.s.lo, fun _ _ => rfl⟩
          unfold sp_of; rw [iha]; simp [nI, hI]
        · refine hg_eq1 (y := 0) (if_neg hI) ?_
          refine hg_if_eq (tgt := 139) d_M_of_132 (by decide) (fun h_3 => ?_) (fun h_3 => absurd (by decide) h_3)
          refine hg_iconst (v := 0) d_M_of_139 (by decide) ?_
          refine hg_ireturn d_M_of_140 rfl rfl ?_
          refine ⟨?_, I2, Lg, rfl, hM0.Z (hM0.1.e hq2) hq2.s, hq2.s.lo, fun _ _ => rfl⟩
          unfold sp_of; rw [iha]; simp [nI, hI]
      · refine hg_tabI (off := 128) (tgt := 141) d_M_of_13 (by decide) (by decide) rfl (by decide) ?_
        refine hg_aload0 d_M_of_141 ?_
        refine hg_iload1 d_M_of_142 ?_
        refine hg_cVi d_M_of_143 l_M_126 rfl rfl (hX.lt (n := 1) ⟨by decide, by decide⟩ rfl (by omega)) rfl (Nat.le_of_ble_eq_true rfl) (m_M_comesTo hX hR hO hw hT hM0.1 hLb hh) rfl ?_
        rintro _ _ ⟨rfl, I3, rfl, g3, hs3⟩
        refine hg_ireturn d_M_of_146 rfl rfl ?_
        refine ⟨?_, I3, Lg, rfl, hM0.Z g3 hs3, hs3.lo, fun _ _ => rfl⟩
        unfold sp_of; rw [iha]; simp [nI]
      · refine hg_tabI (off := 134) (tgt := 147) d_M_of_13 (by decide) (by decide) rfl (by decide) ?_
        refine hg_aload0 d_M_of_147 ?_
        refine hg_iload1 d_M_of_148 ?_
        obtain ⟨hq1, hq2⟩ := hs_plc_ok hO hh
        rw [show nI h = nI (hs_st (gN G) (hs_plc (gN G) h)) by rw [hq2]]
        refine hg_cVi d_M_of_149 l_M_129 rfl rfl (hX.lt (n := 1) ⟨by decide, by decide⟩ rfl (by omega)) rfl (Nat.le_of_ble_eq_true rfl) (m_M_placeOf hX hR hM hO hq1) rfl ?_
        rintro _ _ ⟨rfl, rfl⟩
        refine hg_ireturn d_M_of_152 rfl rfl ?_
        refine ⟨?_, I, Lg, rfl, hM0, fun _ _ => rfl, fun _ _ => rfl⟩
        rw [hq2]; unfold sp_of; rw [iha]; simp [nI]
  · have iha : hs_ix (hs_n (gN G)) x = none := hs_ix_n hha
    refine hg_if_ne (tgt := 12) d_M_of_5 (by decide) (fun h_4 => absurd h_4 (by decide)) (fun h_4 => ?_)
    refine hg_sipush (v := (-10001)) d_M_of_8 (by decide) ?_
    refine hg_ireturn d_M_of_11 rfl rfl ?_
    refine ⟨?_, I, Lg, rfl, hM0, fun _ _ => rfl, fun _ _ => rfl⟩
    simp [sp_of, iha]

end M38
