/-! HangmanDinner: what is asked of houses, Thursdays, doors -/
section M8
variable {l : Launch} {E : hg_E} {d T : Nat}
variable {I : Nat → Nat → Nat → Int32} {Lg : Nat → Nat → Nat → Int64} {Rf : Nat → Nat → Nat → Option (Nat × Nat)} {X : Nat × (Nat → Nat) × (Nat → Nat → Nat)}
variable {tw : hs_W} {σ : hs_S}
theorem m_D_illOnes_loop (hE : hq_E T tw σ I Rf X) (hw : hs_wk σ < 2 ^ 31) : ∀ (k i : Nat) (I1 : Nat → Nat → Nat → Int32), i + k = hs_n σ → hg_e6 I1 I → hg_WP l E (d + 3) Y_D_illOnes 0 0 4 [some (.ref (hg_ad E 0 0)), some (.int (hs_bits (hs_illb tw σ) i)), some (.int (nI i))] [] (I1, Lg, Rf, X) (hg_i (fun v M' => ∃ I' : Nat → Nat → Nat → Int32, v = hs_bits (hs_illb tw σ) (hs_n σ) ∧ M' = (I', Lg, Rf, X) ∧ hg_e6 I' I)) := by
  obtain ⟨hX, hR, hC, hO, hW⟩ := id hE
  have hn6 := hO.1
  intro k
  induction k with
  | zero =>
    intro i I1 hik he
    have hC1 := hC.e6 he
    obtain rfl : i = hs_n σ := by omega
    refine hg_iload2 d_D_illOnes_4 ?_
    refine hg_aload0 d_D_illOnes_5 ?_
    refine hg_getR d_D_illOnes_6 f_D_69 rfl rfl (hX.lt (n := 1) ⟨by decide, by decide⟩ rfl (by omega)) (hR.D (j := 0) (q := (1, 0)) rfl) ?_
    refine hg_getI d_D_illOnes_9 f_D_185 rfl rfl (hX.lt (n := 3) ⟨by decide, by decide⟩ rfl (by omega)) ?_
    refine hg_eq1 (y := nI (hs_n σ)) (hC1.1) ?_
    refine hg_icmp_ge (tgt := 38) d_D_illOnes_12 (by decide) (fun h_1 => ?_) (fun h_1 => absurd (Int32.le_refl _) h_1)
    refine hg_iload1 d_D_illOnes_38 ?_
    refine hg_ireturn d_D_illOnes_39 rfl rfl ?_
    exact ⟨I1, rfl, rfl, he⟩
  | succ k ih =>
    intro i I1 hik he
    have hC1 := hC.e6 he
    refine hg_iload2 d_D_illOnes_4 ?_
    refine hg_aload0 d_D_illOnes_5 ?_
    refine hg_getR d_D_illOnes_6 f_D_69 rfl rfl (hX.lt (n := 1) ⟨by decide, by decide⟩ rfl (by omega)) (hR.D (j := 0) (q := (1, 0)) rfl) ?_
    refine hg_getI d_D_illOnes_9 f_D_185 rfl rfl (hX.lt (n := 3) ⟨by decide, by decide⟩ rfl (by omega)) ?_
    refine hg_eq1 (y := nI (hs_n σ)) (hC1.1) ?_
    refine hg_icmp_ge (tgt := 38) d_D_illOnes_12 (by decide) (fun h_2 => absurd h_2 (nI_ge (by omega) (by omega))) (fun h_2 => ?_)
    refine hg_aload0 d_D_illOnes_15 ?_
    refine hg_getR d_D_illOnes_16 f_D_69 rfl rfl (hX.lt (n := 1) ⟨by decide, by decide⟩ rfl (by omega)) (hR.D (j := 0) (q := (1, 0)) rfl) ?_
    refine hg_iload2 d_D_illOnes_19 ?_
    refine hg_cVi d_D_illOnes_20 l_D_121 rfl rfl (hX.lt (n := 3) ⟨by decide, by decide⟩ rfl (by omega)) rfl (Nat.le_of_ble_eq_true rfl) (m_S_isIll hX hR (by decide) hC1 hO (hW.e6 he) (by omega) hw) rfl ?_
    rintro _ _ ⟨I2, ⟨hill, rfl⟩ | ⟨hill, rfl⟩, rfl, he2⟩
    · refine hg_if_eq (tgt := 32) d_D_illOnes_23 (by decide) (fun h_3 => absurd h_3 (by decide)) (fun h_3 => ?_)
      refine hg_iload1 d_D_illOnes_26 ?_
      refine hg_iconst (v := 1) d_D_illOnes_27 (by decide) ?_
      refine hg_iload2 d_D_illOnes_28 ?_
      refine hg_ishl d_D_illOnes_29 ?_
      refine hg_ior d_D_illOnes_30 ?_
      refine hg_istore1 d_D_illOnes_31 rfl ?_
      refine hg_iinc2 (v := nI (i + 1)) d_D_illOnes_32 rfl (nI_add _ _) ?_
      refine hg_goto (tgt := 4) d_D_illOnes_35 (by decide) ?_
      have := ih (i + 1) I2 (by omega) (he2.tr he)
      rwa [show hs_bits (hs_illb tw σ) (i + 1) = (hs_bits (hs_illb tw σ) i) ||| (1 <<< ((nI i) &&& 31)) from if_pos (hs_illb_t hill)] at this
    · refine hg_if_eq (tgt := 32) d_D_illOnes_23 (by decide) (fun h_4 => ?_) (fun h_4 => absurd (by decide) h_4)
      refine hg_iinc2 (v := nI (i + 1)) d_D_illOnes_32 rfl (nI_add _ _) ?_
      refine hg_goto (tgt := 4) d_D_illOnes_35 (by decide) ?_
      have := ih (i + 1) I2 (by omega) (he2.tr he)
      rwa [show hs_bits (hs_illb tw σ) (i + 1) = hs_bits (hs_illb tw σ) i from if_neg (by rw [hs_illb_f hill]; decide)] at this
theorem m_D_illOnes (hE : hq_E T tw σ I Rf X) (hw : hs_wk σ < 2 ^ 31) : hg_MC l E (d + 4) Y_D_illOnes 0 0 [.ref (hg_ad E 0 0)] (I, Lg, Rf, X) (hg_i (fun v M' => ∃ I' : Nat → Nat → Nat → Int32, v = hs_bits (hs_illb tw σ) (hs_n σ) ∧ M' = (I', Lg, Rf, X) ∧ hg_e6 I' I)) := by
  refine hg_mc k_D_illOnes (Nat.le_of_ble_eq_true rfl) ?_
  show hg_WP l E _ Y_D_illOnes 0 0 0 [some (.ref (hg_ad E 0 0)), none, none] [] (I, Lg, Rf, X) _
  refine hg_iconst (v := 0) d_D_illOnes_0 (by decide) ?_
  refine hg_istore1 d_D_illOnes_1 rfl ?_
  refine hg_iconst (v := 0) d_D_illOnes_2 (by decide) ?_
  refine hg_istore2 d_D_illOnes_3 rfl ?_
  exact m_D_illOnes_loop hE hw _ 0 I (Nat.zero_add _) hg_e6.rf

theorem m_D_comes_loop {h : Nat} (hE : hq_E T tw σ I Rf X) (hw : hs_wk σ ≤ 9999) (hh : h < hs_n σ) : ∀ (k i : Nat) (I1 : Nat → Nat → Nat → Int32) (Rf1 : Nat → Nat → Nat → Option (Nat × Nat)), i + k = 61 → hs_C 1 (hs_th tw σ i) I1 Rf1 → hg_sc I1 I → hg_rx Rf1 Rf → sp_cm tw σ h k i = sp_cm tw σ h 61 0 → hg_WP l E (d + 5) Y_D_comes 0 0 13 [some (.ref (hg_ad E 0 0)), some (.int (nI h)), some (.int (nI i))] [] (I1, Lg, Rf1, X) (hg_i (fun v M' => hq_A v (sp_cm tw σ h 61 0) I Lg Rf X M')) := by
  obtain ⟨hX, hR, hC, hO, hW⟩ := id hE
  have hn6 := hO.1
  intro k
  induction k with
  | zero =>
    intro i I1 Rf1 hik hC1 hs hr hq
    obtain rfl : i = 61 := by omega
    refine hg_iload2 d_D_comes_13 ?_
    refine hg_bipush (v := 60) d_D_comes_14 (by decide) ?_
    refine hg_icmp_gt (tgt := 38) d_D_comes_16 (by decide) (fun h_1 => ?_) (fun h_1 => absurd (by decide) h_1)
    refine hg_bipush (v := (-5)) d_D_comes_38 (by decide) ?_
    refine hg_ireturn d_D_comes_40 rfl rfl ?_
    exact ⟨hq, I1, Rf1, rfl, hs, hr⟩
  | succ k ih =>
    intro i I1 Rf1 hik hC1 hs hr hq
    obtain ⟨hOi, hwi, hni, -⟩ := hs_th_all (tw := tw) hO i
    have hR := hR.rx hr
    refine hg_iload2 d_D_comes_13 ?_
    refine hg_bipush (v := 60) d_D_comes_14 (by decide) ?_
    refine hg_icmp_gt (tgt := 38) d_D_comes_16 (by decide) (fun h_2 => absurd h_2 (nI_nlt (b := i) (a := 60) (by omega) (by decide))) (fun h_2 => ?_)
    refine hg_aload0 d_D_comes_19 ?_
    refine hg_getR d_D_comes_20 f_D_73 rfl rfl (hX.lt (n := 1) ⟨by decide, by decide⟩ rfl (by omega)) (hR.D (j := 1) (q := (1, 1)) rfl) ?_
    refine hg_cVi d_D_comes_23 l_D_199 rfl rfl (hX.lt (n := 3) ⟨by decide, by decide⟩ rfl (by omega)) rfl (Nat.le_of_ble_eq_true rfl) (m_S_thursday hX hR (by decide) hC1 hOi (hW.sc hs) (by omega)) rfl ?_
    rintro _ _ ⟨I2, rfl, rfl, hC2, hf2⟩
    refine hg_iload1 d_D_comes_26 ?_
    refine hg_icmp_ne (tgt := 32) d_D_comes_27 (by decide) (fun hq2 => ?_) (fun hq2 => ?_)
    · refine hg_iinc2 (v := nI (i + 1)) d_D_comes_32 rfl (nI_add _ _) ?_
      refine hg_goto (tgt := 13) d_D_comes_35 (by decide) ?_
      refine ih (i + 1) I2 Rf1 (by omega) hC2 (hf2.sc.tr hs) hr ?_
      rw [← hq]; conv => rhs; unfold sp_cm
      rw [if_neg (fun z => hq2 ((hs_hov_eq (fun x hx => by have := hs_ho_lt hOi hx; omega) (by omega)).mpr z))]
    · replace hq2 := Decidable.not_not.mp hq2
      refine hg_iload2 d_D_comes_30 ?_
      refine hg_ireturn d_D_comes_31 rfl rfl ?_
      refine ⟨?_, I2, Rf1, rfl, hf2.sc.tr hs, hr⟩
      rw [← hq]; unfold sp_cm; rw [if_pos ((hs_hov_eq (fun x hx => by have := hs_ho_lt hOi hx; omega) (by omega)).mp hq2)]
theorem m_D_comes {h : Nat} (hE : hq_E T tw σ I Rf X) (hw : hs_wk σ ≤ 9999) (hh : h < hs_n σ) : hg_MC l E (d + 6) Y_D_comes 0 0 [.ref (hg_ad E 0 0), .int (nI h)] (I, Lg, Rf, X) (hg_i (fun v M' => hq_A v (sp_cm tw σ h 61 0) I Lg Rf X M')) := by
  obtain ⟨hX, hR, hC, hO, hW⟩ := id hE
  have hn6 := hO.1
  refine hg_mc k_D_comes (Nat.le_of_ble_eq_true rfl) ?_
  show hg_WP l E _ Y_D_comes 0 0 0 [some (.ref (hg_ad E 0 0)), some (.int (nI h)), none] [] (I, Lg, Rf, X) _
  refine hg_aload0 d_D_comes_0 ?_
  refine hg_getR d_D_comes_1 f_D_73 rfl rfl (hX.lt (n := 1) ⟨by decide, by decide⟩ rfl (by omega)) (hR.D (j := 1) (q := (1, 1)) rfl) ?_
  refine hg_aload0 d_D_comes_4 ?_
  refine hg_getR d_D_comes_5 f_D_69 rfl rfl (hX.lt (n := 1) ⟨by decide, by decide⟩ rfl (by omega)) (hR.D (j := 0) (q := (1, 0)) rfl) ?_
  refine hg_cVv d_D_comes_8 l_D_191 rfl rfl (hX.lt (n := 3) ⟨by decide, by decide⟩ rfl (by omega)) rfl (Nat.le_of_ble_eq_true rfl) (m_S_become hX hR (by decide) (by decide) (by decide) hC hO) rfl ?_
  rintro _ ⟨I1, rfl, hB1, hfB1⟩
  refine hg_iconst (v := 0) d_D_comes_11 (by decide) ?_
  refine hg_istore2 d_D_comes_12 rfl ?_
  exact m_D_comes_loop hE hw hh _ 0 I1 _ rfl hB1 hfB1.sc hg_rx.u3 rfl

theorem hg_swN (w : Int32) (b : Nat) (hb : b < 2147483647) : (w.toInt < 0 ∨ (b : Int) < w.toInt) ∨ ∃ j : Nat, j ≤ b ∧ w = nI j := by
  rcases pk_ix w (n := b + 1) (by omega) with h | h | ⟨j, hj, e⟩
  · exact Or.inl (Or.inl (by have := Int32.lt_iff_toInt_lt.mp h; simpa using this))
  · refine Or.inl (Or.inr ?_)
    have := Int32.le_iff_toInt_le.mp h
    rw [nI_toInt (by omega)] at this
    omega
  · exact Or.inr ⟨j, by omega, e⟩
theorem hg_sw11 (w : Int32) : (w.toInt < 0 ∨ 10 < w.toInt) ∨ ∃ j : Nat, j ≤ 10 ∧ w = nI j := hg_swN w 10 (by decide)
theorem hg_sw7 (w : Int32) : (w.toInt < 0 ∨ 6 < w.toInt) ∨ ∃ j : Nat, j ≤ 6 ∧ w = nI j := hg_swN w 6 (by decide)
theorem m_D_of {x w : Int32} (hE : hq_E T tw σ I Rf X) (hw : hs_wk σ ≤ 9999) : hg_MC l E (d + 7) Y_D_of 0 0 [.ref (hg_ad E 0 0), .int x, .int w] (I, Lg, Rf, X) (hg_i (fun v M' => hq_A v (sp_of tw σ x w) I Lg Rf X M')) := by
  obtain ⟨hX, hR, hC, hO, hW⟩ := id hE
  have hn6 := hO.1
  refine hg_mc k_D_of (Nat.le_of_ble_eq_true rfl) ?_
  show hg_WP l E _ Y_D_of 0 0 0 [some (.ref (hg_ad E 0 0)), some (.int x), some (.int w), none] [] (I, Lg, Rf, X) _
  refine hg_aload0 d_D_of_0 ?_
  refine hg_getR d_D_of_1 f_D_69 rfl rfl (hX.lt (n := 1) ⟨by decide, by decide⟩ rfl (by omega)) (hR.D (j := 0) (q := (1, 0)) rfl) ?_
  refine hg_iload1 d_D_of_4 ?_
  refine hg_cVr d_D_of_5 l_D_88 rfl rfl (hX.lt (n := 3) ⟨by decide, by decide⟩ rfl (by omega)) rfl (Nat.le_of_ble_eq_true rfl) (m_S_at hX hR (by decide) hC.1 hn6) rfl ?_
  rintro _ _ ⟨⟨hna, rfl⟩ | ⟨h, hh, rfl, rfl⟩, rfl⟩
  · show hg_WP l E _ Y_D_of 0 0 8 [some (.ref (hg_ad E 0 0)), some (.int x), some (.int w), none] [.null] (I, Lg, Rf, X) _
    refine hg_astoreN3 d_D_of_8 rfl ?_
    refine hg_aloadN3 d_D_of_9 ?_
    refine hg_ifnonnullN d_D_of_10 ?_
    refine hg_sipush (v := (-10001)) d_D_of_13 (by decide) ?_
    refine hg_ireturn d_D_of_16 rfl rfl ?_
    exact ⟨by unfold sp_of; rw [hs_ix_n hna], I, Rf, rfl, hg_sc.rf, hg_rx.rf⟩
  · show hg_WP l E _ Y_D_of 0 0 8 [some (.ref (hg_ad E 0 0)), some (.int (nI h)), some (.int w), none] [.ref (hg_ad E 3 (6 * 0 + h))] (I, Lg, Rf, X) _
    refine hg_astore3 d_D_of_8 rfl ?_
    refine hg_aload3 d_D_of_9 ?_
    refine hg_ifnonnull (tgt := 17) d_D_of_10 (by decide) ?_
    refine hg_iload2 d_D_of_17 ?_
    rcases hg_sw11 w with hsw | ⟨j, hj, rfl⟩
    · refine hg_tabO (tgt := 160) d_D_of_18 (hsw) (by decide) ?_
      refine hg_sipush (v := (-10001)) d_D_of_160 (by decide) ?_
      refine hg_ireturn d_D_of_163 rfl rfl ?_
      refine ⟨?_, I, Rf, rfl, hg_sc.rf, hg_rx.rf⟩
      unfold sp_of; rw [hs_ix_s hh (by omega)]; simp only []
      have hne : ∀ j : Nat, j < 11 → w ≠ nI j := fun j hj e => by rw [e, nI_toInt (by omega)] at hsw; omega
      rw [if_neg (show ¬ w = 0 from hne 0 (by decide)), if_neg (show ¬ w = 1 from hne 1 (by decide)), if_neg (show ¬ w = 2 from hne 2 (by decide)), if_neg (show ¬ w = 3 from hne 3 (by decide)), if_neg (show ¬ w = 4 from hne 4 (by decide)), if_neg (show ¬ w = 5 from hne 5 (by decide)), if_neg (show ¬ w = 6 from hne 6 (by decide)), if_neg (show ¬ w = 7 from hne 7 (by decide)), if_neg (show ¬ w = 8 from hne 8 (by decide)), if_neg (show ¬ w = 9 from hne 9 (by decide)), if_neg (show ¬ w = 10 from hne 10 (by decide))]
    · have h11 : j = 0 ∨ j = 1 ∨ j = 2 ∨ j = 3 ∨ j = 4 ∨ j = 5 ∨ j = 6 ∨ j = 7 ∨ j = 8 ∨ j = 9 ∨ j = 10 := by omega
      rcases h11 with rfl | rfl | rfl | rfl | rfl | rfl | rfl | rfl | rfl | rfl | rfl
      · refine hg_tabI (off := 58) (tgt := 76) d_D_of_18 (by decide) (by decide) rfl (by decide) ?_
        refine hg_aload3 d_D_of_76 ?_
        refine hg_getI d_D_of_77 f_D_92 rfl rfl (hX.lt (n := 18) ⟨by decide, by decide⟩ rfl (by omega)) ?_
        refine hg_eq1 (y := hs_hv σ h 0) (hC.2.2.2.2.2.2.1 h 0 hh (by decide)) ?_
        refine hg_ireturn d_D_of_80 rfl rfl ?_
        refine ⟨?_, I, Rf, rfl, hg_sc.rf, hg_rx.rf⟩
        unfold sp_of; rw [hs_ix_s hh (by omega)]; simp [nI]
      · refine hg_tabI (off := 63) (tgt := 81) d_D_of_18 (by decide) (by decide) rfl (by decide) ?_
        refine hg_aload3 d_D_of_81 ?_
        refine hg_getI d_D_of_82 f_D_98 rfl rfl (hX.lt (n := 18) ⟨by decide, by decide⟩ rfl (by omega)) ?_
        refine hg_eq1 (y := hs_hv σ h 1) (hC.2.2.2.2.2.2.1 h 1 hh (by decide)) ?_
        refine hg_ireturn d_D_of_85 rfl rfl ?_
        refine ⟨?_, I, Rf, rfl, hg_sc.rf, hg_rx.rf⟩
        unfold sp_of; rw [hs_ix_s hh (by omega)]; simp [nI]
      · refine hg_tabI (off := 68) (tgt := 86) d_D_of_18 (by decide) (by decide) rfl (by decide) ?_
        refine hg_aload3 d_D_of_86 ?_
        refine hg_getI d_D_of_87 f_D_101 rfl rfl (hX.lt (n := 18) ⟨by decide, by decide⟩ rfl (by omega)) ?_
        refine hg_eq1 (y := hs_hv σ h 2) (hC.2.2.2.2.2.2.1 h 2 hh (by decide)) ?_
        refine hg_ireturn d_D_of_90 rfl rfl ?_
        refine ⟨?_, I, Rf, rfl, hg_sc.rf, hg_rx.rf⟩
        unfold sp_of; rw [hs_ix_s hh (by omega)]; simp [nI]
      · refine hg_tabI (off := 73) (tgt := 91) d_D_of_18 (by decide) (by decide) rfl (by decide) ?_
        refine hg_aload3 d_D_of_91 ?_
        refine hg_getI d_D_of_92 f_D_104 rfl rfl (hX.lt (n := 18) ⟨by decide, by decide⟩ rfl (by omega)) ?_
        refine hg_eq1 (y := hs_hv σ h 3) (hC.2.2.2.2.2.2.1 h 3 hh (by decide)) ?_
        refine hg_ireturn d_D_of_95 rfl rfl ?_
        refine ⟨?_, I, Rf, rfl, hg_sc.rf, hg_rx.rf⟩
        unfold sp_of; rw [hs_ix_s hh (by omega)]; simp [nI]
      · refine hg_tabI (off := 78) (tgt := 96) d_D_of_18 (by decide) (by decide) rfl (by decide) ?_
        refine hg_aload3 d_D_of_96 ?_
        refine hg_getI d_D_of_97 f_D_107 rfl rfl (hX.lt (n := 18) ⟨by decide, by decide⟩ rfl (by omega)) ?_
        refine hg_eq1 (y := hs_hv σ h 4) (hC.2.2.2.2.2.2.1 h 4 hh (by decide)) ?_
        refine hg_ireturn d_D_of_100 rfl rfl ?_
        refine ⟨?_, I, Rf, rfl, hg_sc.rf, hg_rx.rf⟩
        unfold sp_of; rw [hs_ix_s hh (by omega)]; simp [nI]
      · refine hg_tabI (off := 83) (tgt := 101) d_D_of_18 (by decide) (by decide) rfl (by decide) ?_
        refine hg_aload3 d_D_of_101 ?_
        refine hg_getI d_D_of_102 f_D_110 rfl rfl (hX.lt (n := 18) ⟨by decide, by decide⟩ rfl (by omega)) ?_
        refine hg_eq1 (y := hs_hv σ h 5) (hC.2.2.2.2.2.2.1 h 5 hh (by decide)) ?_
        refine hg_ireturn d_D_of_105 rfl rfl ?_
        refine ⟨?_, I, Rf, rfl, hg_sc.rf, hg_rx.rf⟩
        unfold sp_of; rw [hs_ix_s hh (by omega)]; simp [nI]
      · refine hg_tabI (off := 88) (tgt := 106) d_D_of_18 (by decide) (by decide) rfl (by decide) ?_
        refine hg_aload3 d_D_of_106 ?_
        refine hg_getI d_D_of_107 f_D_113 rfl rfl (hX.lt (n := 18) ⟨by decide, by decide⟩ rfl (by omega)) ?_
        refine hg_eq1 (y := hs_hv σ h 6) (hC.2.2.2.2.2.2.1 h 6 hh (by decide)) ?_
        refine hg_if_eq (tgt := 117) d_D_of_110 (by decide) (fun h_1 => ?_) (fun h_1 => ?_)
        · refine hg_iconst (v := 0) d_D_of_117 (by decide) ?_
          refine hg_ireturn d_D_of_118 rfl rfl ?_
          refine ⟨?_, I, Rf, rfl, hg_sc.rf, hg_rx.rf⟩
          unfold sp_of; rw [hs_ix_s hh (by omega)]; rcases (hO.2.2.2.2.1 h hh).2.2 with z | z <;> simp_all [nI]
        · refine hg_iconst (v := 1) d_D_of_113 (by decide) ?_
          refine hg_goto (tgt := 118) d_D_of_114 (by decide) ?_
          refine hg_ireturn d_D_of_118 rfl rfl ?_
          refine ⟨?_, I, Rf, rfl, hg_sc.rf, hg_rx.rf⟩
          unfold sp_of; rw [hs_ix_s hh (by omega)]; rcases (hO.2.2.2.2.1 h hh).2.2 with z | z <;> simp_all [nI]
      · refine hg_tabI (off := 101) (tgt := 119) d_D_of_18 (by decide) (by decide) rfl (by decide) ?_
        refine hg_aload0 d_D_of_119 ?_
        refine hg_getR d_D_of_120 f_D_69 rfl rfl (hX.lt (n := 1) ⟨by decide, by decide⟩ rfl (by omega)) (hR.D (j := 0) (q := (1, 0)) rfl) ?_
        refine hg_iload1 d_D_of_123 ?_
        refine hg_cVi d_D_of_124 l_D_117 rfl rfl (hX.lt (n := 3) ⟨by decide, by decide⟩ rfl (by omega)) rfl (Nat.le_of_ble_eq_true rfl) (m_S_dread hX hR (by decide) hC hO hW hh (by omega)) rfl ?_
        rintro _ _ ⟨I2, rfl, rfl, he2⟩
        refine hg_ireturn d_D_of_127 rfl rfl ?_
        refine ⟨?_, I2, Rf, rfl, hg_e6.sc he2, hg_rx.rf⟩
        unfold sp_of; rw [hs_ix_s hh (by omega)]; simp [nI]
      · refine hg_tabI (off := 110) (tgt := 128) d_D_of_18 (by decide) (by decide) rfl (by decide) ?_
        refine hg_aload0 d_D_of_128 ?_
        refine hg_getR d_D_of_129 f_D_69 rfl rfl (hX.lt (n := 1) ⟨by decide, by decide⟩ rfl (by omega)) (hR.D (j := 0) (q := (1, 0)) rfl) ?_
        refine hg_iload1 d_D_of_132 ?_
        refine hg_cVi d_D_of_133 l_D_121 rfl rfl (hX.lt (n := 3) ⟨by decide, by decide⟩ rfl (by omega)) rfl (Nat.le_of_ble_eq_true rfl) (m_S_isIll hX hR (by decide) hC hO hW hh (by omega)) rfl ?_
        rintro _ _ ⟨I2, ⟨hill, rfl⟩ | ⟨hill, rfl⟩, rfl, he2⟩
        · refine hg_if_eq (tgt := 143) d_D_of_136 (by decide) (fun h_2 => absurd h_2 (by decide)) (fun h_2 => ?_)
          refine hg_iconst (v := 1) d_D_of_139 (by decide) ?_
          refine hg_goto (tgt := 144) d_D_of_140 (by decide) ?_
          refine hg_ireturn d_D_of_144 rfl rfl ?_
          refine ⟨?_, I2, Rf, rfl, hg_e6.sc he2, hg_rx.rf⟩
          unfold sp_of; rw [hs_ix_s hh (by omega)]; simp [nI, hs_illb_t hill]
        · refine hg_if_eq (tgt := 143) d_D_of_136 (by decide) (fun h_3 => ?_) (fun h_3 => absurd (by decide) h_3)
          refine hg_iconst (v := 0) d_D_of_143 (by decide) ?_
          refine hg_ireturn d_D_of_144 rfl rfl ?_
          refine ⟨?_, I2, Rf, rfl, hg_e6.sc he2, hg_rx.rf⟩
          unfold sp_of; rw [hs_ix_s hh (by omega)]; simp [nI, hs_illb_f hill]
      · refine hg_tabI (off := 127) (tgt := 145) d_D_of_18 (by decide) (by decide) rfl (by decide) ?_
        refine hg_aload0 d_D_of_145 ?_
        refine hg_iload1 d_D_of_146 ?_
        refine hg_cVi d_D_of_147 l_D_125 rfl rfl (hX.lt (n := 1) ⟨by decide, by decide⟩ rfl (by omega)) rfl (Nat.le_of_ble_eq_true rfl) (m_D_comes hE hw hh) rfl ?_
        rintro _ _ ⟨rfl, I2, Rf2, rfl, hs2, hr2⟩
        refine hg_ireturn d_D_of_150 rfl rfl ?_
        refine ⟨?_, I2, Rf2, rfl, hs2, hr2⟩
        unfold sp_of; rw [hs_ix_s hh (by omega)]; simp [nI]
      · refine hg_tabI (off := 133) (tgt := 151) d_D_of_18 (by decide) (by decide) rfl (by decide) ?_
        refine hg_aload0 d_D_of_151 ?_
        refine hg_getR d_D_of_152 f_D_69 rfl rfl (hX.lt (n := 1) ⟨by decide, by decide⟩ rfl (by omega)) (hR.D (j := 0) (q := (1, 0)) rfl) ?_
        refine hg_iload1 d_D_of_155 ?_
        obtain ⟨hpl1, hpl2⟩ := hs_plc_ok hO hh
        rw [show nI h = nI (hs_st σ (hs_plc σ h)) by rw [hpl2]]
        refine hg_cVi d_D_of_156 l_D_128 rfl rfl (hX.lt (n := 3) ⟨by decide, by decide⟩ rfl (by omega)) rfl (Nat.le_of_ble_eq_true rfl) (m_S_placeOf hX hR (by decide) hC hO hpl1) rfl ?_
        rintro _ _ ⟨rfl, rfl⟩
        refine hg_ireturn d_D_of_159 rfl rfl ?_
        refine ⟨?_, I, Rf, rfl, hg_sc.rf, hg_rx.rf⟩
        rw [hpl2]; unfold sp_of; rw [hs_ix_s hh (by omega)]; simp [nI]

theorem m_D_told {w : Int32} (hE : hq_E T tw σ I Rf X) (hw : hs_wk σ ≤ 9999) : hg_MC l E (d + 7) Y_D_told 0 0 [.ref (hg_ad E 0 0), .int w] (I, Lg, Rf, X) (hg_i (fun v M' => hq_A v (sp_told tw σ w) I Lg Rf X M')) := by
  obtain ⟨hX, hR, hC, hO, hW⟩ := id hE
  have hn6 := hO.1
  refine hg_mc k_D_told (Nat.le_of_ble_eq_true rfl) ?_
  show hg_WP l E _ Y_D_told 0 0 0 [some (.ref (hg_ad E 0 0)), some (.int w)] [] (I, Lg, Rf, X) _
  refine hg_iload1 d_D_told_0 ?_
  rcases hg_sw7 w with hsw | ⟨j, hj, rfl⟩
  · refine hg_tabO (tgt := 103) d_D_told_1 (hsw) (by decide) ?_
    refine hg_aload0 d_D_told_103 ?_
    refine hg_getR d_D_told_104 f_D_69 rfl rfl (hX.lt (n := 1) ⟨by decide, by decide⟩ rfl (by omega)) (hR.D (j := 0) (q := (1, 0)) rfl) ?_
    refine hg_iload1 d_D_told_107 ?_
    refine hg_bipush (v := 10) d_D_told_108 (by decide) ?_
    refine hg_isub d_D_told_110 ?_
    refine hg_cVi d_D_told_111 l_D_131 rfl rfl (hX.lt (n := 3) ⟨by decide, by decide⟩ rfl (by omega)) rfl (Nat.le_of_ble_eq_true rfl) (m_S_has hX (by decide) hC.1 hn6) rfl ?_
    rintro _ _ ⟨⟨hk0, rfl⟩ | ⟨hk0, rfl⟩, rfl⟩
    · obtain ⟨k, hk, ek⟩ := hk0
      refine hg_if_eq (tgt := 132) d_D_told_114 (by decide) (fun h_1 => absurd h_1 (by decide)) (fun h_1 => ?_)
      refine hg_aload0 d_D_told_117 ?_
      refine hg_getR d_D_told_118 f_D_69 rfl rfl (hX.lt (n := 1) ⟨by decide, by decide⟩ rfl (by omega)) (hR.D (j := 0) (q := (1, 0)) rfl) ?_
      refine hg_getR d_D_told_121 f_D_182 rfl rfl (hX.lt (n := 3) ⟨by decide, by decide⟩ rfl (by omega)) (hR.s1 (by omega)) ?_
      refine hg_iload1 d_D_told_124 ?_
      refine hg_bipush (v := 10) d_D_told_125 (by decide) ?_
      refine hg_isub d_D_told_127 ?_
      refine hg_eq1 (y := nI k) (ek) ?_
      refine hg_iald_n (j := k) d_D_told_128 rfl rfl (hX.lt (n := 3) ⟨by decide, by decide⟩ rfl (by omega)) (hX.jn (n := 6) (by decide) rfl (by omega)) ?_
      refine hg_eq1 (y := nI (hs_st σ k)) (hC.2.2.2.2.2.1 k hk) ?_
      refine hg_goto (tgt := 133) d_D_told_129 (by decide) ?_
      refine hg_ireturn d_D_told_133 rfl rfl ?_
      refine ⟨?_, I, Rf, rfl, hg_sc.rf, hg_rx.rf⟩
      unfold sp_told
      have hne : ∀ j : Nat, j < 7 → w ≠ nI j := fun j hj e => by rw [e, nI_toInt (by omega)] at hsw; omega
      rw [if_neg (show ¬ w = 0 from hne 0 (by decide)), if_neg (show ¬ w = 1 from hne 1 (by decide)), if_neg (show ¬ w = 2 from hne 2 (by decide)), if_neg (show ¬ w = 3 from hne 3 (by decide)), if_neg (show ¬ w = 4 from hne 4 (by decide)), if_neg (show ¬ w = 5 from hne 5 (by decide)), if_neg (show ¬ w = 6 from hne 6 (by decide))]
      rw [ek, hs_ix_s hk (by omega)]
    · refine hg_if_eq (tgt := 132) d_D_told_114 (by decide) (fun h_2 => ?_) (fun h_2 => absurd (by decide) h_2)
      refine hg_iconst (v := (-1)) d_D_told_132 (by decide) ?_
      refine hg_ireturn d_D_told_133 rfl rfl ?_
      refine ⟨?_, I, Rf, rfl, hg_sc.rf, hg_rx.rf⟩
      unfold sp_told
      have hne : ∀ j : Nat, j < 7 → w ≠ nI j := fun j hj e => by rw [e, nI_toInt (by omega)] at hsw; omega
      rw [if_neg (show ¬ w = 0 from hne 0 (by decide)), if_neg (show ¬ w = 1 from hne 1 (by decide)), if_neg (show ¬ w = 2 from hne 2 (by decide)), if_neg (show ¬ w = 3 from hne 3 (by decide)), if_neg (show ¬ w = 4 from hne 4 (by decide)), if_neg (show ¬ w = 5 from hne 5 (by decide)), if_neg (show ¬ w = 6 from hne 6 (by decide))]
      rw [hs_ix_n hk0]
  · have h11 : j = 0 ∨ j = 1 ∨ j = 2 ∨ j = 3 ∨ j = 4 ∨ j = 5 ∨ j = 6 := by omega
    rcases h11 with rfl | rfl | rfl | rfl | rfl | rfl | rfl
    · refine hg_tabI (off := 43) (tgt := 44) d_D_told_1 (by decide) (by decide) rfl (by decide) ?_
      refine hg_aload0 d_D_told_44 ?_
      refine hg_getR d_D_told_45 f_D_69 rfl rfl (hX.lt (n := 1) ⟨by decide, by decide⟩ rfl (by omega)) (hR.D (j := 0) (q := (1, 0)) rfl) ?_
      refine hg_getI d_D_told_48 f_D_158 rfl rfl (hX.lt (n := 3) ⟨by decide, by decide⟩ rfl (by omega)) ?_
      refine hg_eq1 (y := nI (hs_wk σ)) (hC.2.2.2.2.1) ?_
      refine hg_ireturn d_D_told_51 rfl rfl ?_
      refine ⟨?_, I, Rf, rfl, hg_sc.rf, hg_rx.rf⟩
      simp [sp_told, nI]
    · refine hg_tabI (off := 51) (tgt := 52) d_D_told_1 (by decide) (by decide) rfl (by decide) ?_
      refine hg_aload0 d_D_told_52 ?_
      refine hg_getR d_D_told_53 f_D_69 rfl rfl (hX.lt (n := 1) ⟨by decide, by decide⟩ rfl (by omega)) (hR.D (j := 0) (q := (1, 0)) rfl) ?_
      refine hg_getR d_D_told_56 f_D_154 rfl rfl (hX.lt (n := 3) ⟨by decide, by decide⟩ rfl (by omega)) hC.2.2.2.2.2.2.2.2 ?_
      refine hg_getI d_D_told_59 f_D_161 rfl rfl (hX.tw hO.2.2.2.2.2.2.2) ?_
      refine hg_eq1 (y := (tw (hs_tn σ)).2) ((hW _ hO.2.2.2.2.2.2.2).1) ?_
      refine hg_ireturn d_D_told_62 rfl rfl ?_
      refine ⟨?_, I, Rf, rfl, hg_sc.rf, hg_rx.rf⟩
      simp [sp_told, nI]
    · refine hg_tabI (off := 62) (tgt := 63) d_D_told_1 (by decide) (by decide) rfl (by decide) ?_
      refine hg_aload0 d_D_told_63 ?_
      refine hg_getR d_D_told_64 f_D_69 rfl rfl (hX.lt (n := 1) ⟨by decide, by decide⟩ rfl (by omega)) (hR.D (j := 0) (q := (1, 0)) rfl) ?_
      refine hg_getI d_D_told_67 f_D_164 rfl rfl (hX.lt (n := 3) ⟨by decide, by decide⟩ rfl (by omega)) ?_
      refine hg_eq1 (y := nI (hs_p σ)) (hC.2.1) ?_
      refine hg_ireturn d_D_told_70 rfl rfl ?_
      refine ⟨?_, I, Rf, rfl, hg_sc.rf, hg_rx.rf⟩
      simp [sp_told, nI]
    · refine hg_tabI (off := 70) (tgt := 71) d_D_told_1 (by decide) (by decide) rfl (by decide) ?_
      refine hg_aload0 d_D_told_71 ?_
      refine hg_getR d_D_told_72 f_D_69 rfl rfl (hX.lt (n := 1) ⟨by decide, by decide⟩ rfl (by omega)) (hR.D (j := 0) (q := (1, 0)) rfl) ?_
      refine hg_getI d_D_told_75 f_D_167 rfl rfl (hX.lt (n := 3) ⟨by decide, by decide⟩ rfl (by omega)) ?_
      refine hg_eq1 (y := nI (hs_hu σ)) (hC.2.2.1) ?_
      refine hg_ireturn d_D_told_78 rfl rfl ?_
      refine ⟨?_, I, Rf, rfl, hg_sc.rf, hg_rx.rf⟩
      simp [sp_told, nI]
    · refine hg_tabI (off := 78) (tgt := 79) d_D_told_1 (by decide) (by decide) rfl (by decide) ?_
      refine hg_aload0 d_D_told_79 ?_
      refine hg_getR d_D_told_80 f_D_69 rfl rfl (hX.lt (n := 1) ⟨by decide, by decide⟩ rfl (by omega)) (hR.D (j := 0) (q := (1, 0)) rfl) ?_
      refine hg_getI d_D_told_83 f_D_170 rfl rfl (hX.lt (n := 3) ⟨by decide, by decide⟩ rfl (by omega)) ?_
      refine hg_eq1 (y := nI (hs_cl σ)) (hC.2.2.2.1) ?_
      refine hg_ireturn d_D_told_86 rfl rfl ?_
      refine ⟨?_, I, Rf, rfl, hg_sc.rf, hg_rx.rf⟩
      simp [sp_told, nI]
    · refine hg_tabI (off := 86) (tgt := 87) d_D_told_1 (by decide) (by decide) rfl (by decide) ?_
      refine hg_aload0 d_D_told_87 ?_
      refine hg_getR d_D_told_88 f_D_69 rfl rfl (hX.lt (n := 1) ⟨by decide, by decide⟩ rfl (by omega)) (hR.D (j := 0) (q := (1, 0)) rfl) ?_
      refine hg_cVi d_D_told_91 l_D_173 rfl rfl (hX.lt (n := 3) ⟨by decide, by decide⟩ rfl (by omega)) rfl (Nat.le_of_ble_eq_true rfl) (m_S_host hX hR (by decide) hC hO hW (by omega)) rfl ?_
      rintro _ _ ⟨I2, rfl, rfl, he2⟩
      refine hg_cSi d_D_told_94 l_D_176 rfl (Nat.le_of_ble_eq_true rfl) (m_D_orNotThere) rfl ?_
      rintro _ _ ⟨rfl, rfl⟩
      refine hg_ireturn d_D_told_97 rfl rfl ?_
      refine ⟨?_, I2, Rf, rfl, hg_e6.sc he2, hg_rx.rf⟩
      rw [hs_hov_h5 _ (fun x hx => by have := hs_ho_lt hO hx; omega)]
      simp [sp_told, nI]
    · refine hg_tabI (off := 97) (tgt := 98) d_D_told_1 (by decide) (by decide) rfl (by decide) ?_
      refine hg_aload0 d_D_told_98 ?_
      refine hg_cVi d_D_told_99 l_D_179 rfl rfl (hX.lt (n := 1) ⟨by decide, by decide⟩ rfl (by omega)) rfl (Nat.le_of_ble_eq_true rfl) (m_D_illOnes hE (by omega)) rfl ?_
      rintro _ _ ⟨I2, rfl, rfl, he2⟩
      refine hg_ireturn d_D_told_102 rfl rfl ?_
      refine ⟨?_, I2, Rf, rfl, hg_e6.sc he2, hg_rx.rf⟩
      simp [sp_told, nI]

end M8
