/-! Scene: a THURSDAY goes -/
section M4
variable {l : Launch} {E : hg_E} {d T : Nat}
variable {I : Nat → Nat → Nat → Int32} {Lg : Nat → Nat → Nat → Int64} {Rf : Nat → Nat → Nat → Option (Nat × Nat)} {X : Nat × (Nat → Nat) × (Nat → Nat → Nat)}

theorem m_S_dineAt_loop {σ : hs_S} {s i : Nat} (hX : hg_XS T X) (hR : hg_SR T Rf) (hs : s < 3) (hC : hs_C s σ I Rf) (hO : hs_ok T σ) (hi : i < hs_n σ) (hw : hs_wk σ < 2 ^ 31) : ∀ (k j : Nat) (I1 : Nat → Nat → Nat → Int32) (a3 : Option Value), hg_c1 a3 = true → j + k = i → hs_C s (hs_sw σ (hs_ow σ j)) I1 Rf → hg_fr s I1 I → hg_WP l E (d + 1) Y_S_dineAt 0 0 2 [some (.ref (hg_ad E 1 s)), some (.int (nI (hs_pl σ i))), some (.int (nI j)), a3] [] (I1, Lg, Rf, X) (hg_v (fun M' => ∃ I' : Nat → Nat → Nat → Int32, M' = (I', Lg, Rf, X) ∧ hs_C s (hs_din σ i) I' Rf ∧ hg_fr s I' I)) := by
  intro k
  induction k with
  | zero =>
    intro j I1 a3 ha3 hjk hC1 hf1
    have hn6 := hO.1
    have hp : hs_p σ < hs_n σ := by have := hO.2.1; omega
    have hpli : hs_pl σ i < hs_n σ := hg_pl_lt hp (by omega)
    obtain rfl : i = j := by omega
    obtain ⟨H, hH⟩ : ∃ H, hs_st σ (hs_pl σ i) = H := ⟨_, rfl⟩
    have hst : H < hs_n σ := hH ▸ hO.2.2.1 _ hpli
    refine hg_iload2 d_S_dineAt_2 ?_
    refine hg_aload0 d_S_dineAt_3 ?_
    refine hg_getI d_S_dineAt_4 f_S_29 rfl rfl (hX.lt (n := 3) ⟨by decide, by decide⟩ rfl (by omega)) ?_
    refine hg_eq1 (y := nI (hs_n σ)) (hC1.1) ?_
    refine hg_icmp_ge (tgt := 56) d_S_dineAt_7 (by decide) (fun h_1 => absurd h_1 (nI_ge (by omega) (by omega))) (fun h_1 => ?_)
    refine hg_aload0 d_S_dineAt_10 ?_
    refine hg_iload2 d_S_dineAt_11 ?_
    refine hg_cVi d_S_dineAt_12 l_S_105 rfl rfl (hX.lt (n := 3) ⟨by decide, by decide⟩ rfl (by omega)) rfl (Nat.le_of_ble_eq_true rfl) (m_S_behindPoint (n := hs_n σ) (p := hs_p σ) hX hs hC1.1 hC1.2.1 hn6 (show hs_p σ ≤ hs_n σ by omega) (by omega)) rfl ?_
    rintro _ _ ⟨rfl, rfl⟩
    refine hg_iload1 d_S_dineAt_15 ?_
    refine hg_icmp_eq (tgt := 56) d_S_dineAt_16 (by decide) (fun h_2 => ?_) (fun h_2 => absurd (rfl) h_2)
    refine hg_aload0 d_S_dineAt_56 ?_
    refine hg_getR d_S_dineAt_57 f_S_11 rfl rfl (hX.lt (n := 3) ⟨by decide, by decide⟩ rfl (by omega)) (hR.s0 (by omega)) ?_
    refine hg_aload0 d_S_dineAt_60 ?_
    refine hg_getR d_S_dineAt_61 f_S_17 rfl rfl (hX.lt (n := 3) ⟨by decide, by decide⟩ rfl (by omega)) (hR.s1 (by omega)) ?_
    refine hg_iload1 d_S_dineAt_64 ?_
    refine hg_iald_n (j := (hs_pl σ i)) d_S_dineAt_65 rfl rfl (hX.lt (n := 3) ⟨by decide, by decide⟩ rfl (by omega)) (hX.jn (n := 6) (by decide) rfl (by omega)) ?_
    refine hg_eq1 (y := nI H) (hH ▸ hC1.2.2.2.2.2.1 _ hpli) ?_
    refine hg_aald_n (j := H) d_S_dineAt_66 rfl (by decide) (hX.lt (n := 3) ⟨by decide, by decide⟩ rfl (by omega)) (hX.jn (n := 6) (by decide) rfl (by omega)) (hR.ha (by omega) (by omega)) ?_
    refine hg_astore2 d_S_dineAt_67 rfl ?_
    refine hg_aload2 d_S_dineAt_68 ?_
    refine hg_dup d_S_dineAt_69 rfl ?_
    refine hg_getI d_S_dineAt_70 f_S_70 rfl rfl (hX.lt (n := 18) ⟨by decide, by decide⟩ rfl (by omega)) ?_
    refine hg_eq1 (y := hs_ow σ i H 4) (hC1.2.2.2.2.2.2.1 H 4 hst (by decide)) ?_
    refine hg_iconst (v := 1) d_S_dineAt_73 (by decide) ?_
    refine hg_iadd d_S_dineAt_74 ?_
    refine hg_putI d_S_dineAt_75 f_S_70 rfl rfl (Or.inl rfl) rfl rfl (hX.lt (n := 18) ⟨by decide, by decide⟩ rfl (by omega)) ?_
    have hC2 : hs_C s (hs_din1 σ i) ((hg_u3 I1 3 (6 * s + H) 4 ((hs_ow σ i H 4) + 1))) Rf := by unfold hs_din1; rw [hH]; exact hC1.shv (p := H) (f := 4) (x := hs_ow σ i H 4 + 1)
    have hf2 : hg_fr s ((hg_u3 I1 3 (6 * s + H) 4 ((hs_ow σ i H 4) + 1))) I := hf1.u3 (hg_tch3 (by omega))
    generalize (hg_u3 I1 3 (6 * s + H) 4 ((hs_ow σ i H 4) + 1)) = I2 at hC2 hf2 ⊢
    refine hg_aload2 d_S_dineAt_78 ?_
    refine hg_getI d_S_dineAt_79 f_S_118 rfl rfl (hX.lt (n := 18) ⟨by decide, by decide⟩ rfl (by omega)) ?_
    refine hg_eq1 (y := hs_hv (hs_din1 σ i) H 5) (hC2.2.2.2.2.2.2.1 H 5 hst (by decide)) ?_
    refine hg_aload0 d_S_dineAt_82 ?_
    refine hg_getI d_S_dineAt_83 f_S_42 rfl rfl (hX.lt (n := 3) ⟨by decide, by decide⟩ rfl (by omega)) ?_
    refine hg_eq1 (y := nI (hs_wk σ)) (hC2.2.2.2.2.1) ?_
    refine hg_bipush (v := 7) d_S_dineAt_86 (by decide) ?_
    refine hg_iand d_S_dineAt_88 ?_
    refine hg_eq1 (y := nI (hs_wk σ % 8)) (pk_andN (by omega) (m := 7) 3 (by decide)) ?_
    refine hg_ishr d_S_dineAt_89 ?_
    refine hg_iconst (v := 1) d_S_dineAt_90 (by decide) ?_
    refine hg_iand d_S_dineAt_91 ?_
    have K : ∀ I3 : Nat → Nat → Nat → Int32, hs_C s (hs_din2 (hs_din1 σ i) H) I3 Rf → hg_fr s I3 I → hg_WP l E (d + 1) Y_S_dineAt 0 0 105 [some (.ref (hg_ad E 1 s)), some (.int (nI (hs_pl σ i))), some (.ref (hg_ad E 3 (6 * s + H))), a3] [] (I3, Lg, Rf, X) (hg_v (fun M' => ∃ I' : Nat → Nat → Nat → Int32, M' = (I', Lg, Rf, X) ∧ hs_C s (hs_din σ i) I' Rf ∧ hg_fr s I' I)) := by
      intro I3 hC3 hf3
      have hn3 : hs_n (hs_din2 (hs_din1 σ i) H) = hs_n σ := hs_n_din2 _ _
      refine hg_aload2 d_S_dineAt_105 ?_
      refine hg_getI d_S_dineAt_106 f_S_67 rfl rfl (hX.lt (n := 18) ⟨by decide, by decide⟩ rfl (by omega)) ?_
      refine hg_eq1 (y := hs_hv (hs_din2 (hs_din1 σ i) H) H 3) (hC3.2.2.2.2.2.2.1 H 3 (hn3 ▸ hst) (by decide)) ?_
      refine hg_if_le (tgt := 130) d_S_dineAt_109 (by decide) (fun hF => ?_) (fun hF => ?_)
      · refine hg_aload0 d_S_dineAt_130 ?_
        refine hg_iload1 d_S_dineAt_131 ?_
        refine hg_iconst (v := 1) d_S_dineAt_132 (by decide) ?_
        refine hg_iadd d_S_dineAt_133 ?_
        refine hg_eq1 (y := nI ((hs_pl σ i) + 1)) (nI_add _ _) ?_
        refine hg_aload0 d_S_dineAt_134 ?_
        refine hg_getI d_S_dineAt_135 f_S_29 rfl rfl (hX.lt (n := 3) ⟨by decide, by decide⟩ rfl (by omega)) ?_
        refine hg_eq1 (y := nI (hs_n σ)) (hn3 ▸ hC3.1) ?_
        refine hg_icmp_ge (tgt := 147) d_S_dineAt_138 (by decide) (fun hG => ?_) (fun hG => ?_)
        · have hG : ¬ hs_pl σ i + 1 < hs_n σ := by rw [nI_leI (by omega) (by omega)] at hG; omega
          refine hg_iconst (v := 0) d_S_dineAt_147 (by decide) ?_
          refine hg_putI d_S_dineAt_148 f_S_33 rfl rfl (Or.inl rfl) rfl rfl (hX.lt (n := 3) ⟨by decide, by decide⟩ rfl (by omega)) ?_
          refine hg_return d_S_dineAt_151 rfl ?_
          exact ⟨_, rfl, (by unfold hs_din hs_din3; rw [hH]; rw [if_neg (Int32.not_lt.mpr hF), if_neg (by show ¬ hs_pl σ i + 1 < hs_n (hs_din2 (hs_din1 σ i) H); rw [hn3]; exact hG)]; exact hC3.ssc (c := 1) (by decide) (by decide)), hf3.u3 hg_tch1⟩
        · have hG : hs_pl σ i + 1 < hs_n σ := by rw [nI_leI (by omega) (by omega)] at hG; omega
          refine hg_iload1 d_S_dineAt_141 ?_
          refine hg_iconst (v := 1) d_S_dineAt_142 (by decide) ?_
          refine hg_iadd d_S_dineAt_143 ?_
          refine hg_eq1 (y := nI ((hs_pl σ i) + 1)) (nI_add _ _) ?_
          refine hg_goto (tgt := 148) d_S_dineAt_144 (by decide) ?_
          refine hg_putI d_S_dineAt_148 f_S_33 rfl rfl (Or.inl rfl) rfl rfl (hX.lt (n := 3) ⟨by decide, by decide⟩ rfl (by omega)) ?_
          refine hg_return d_S_dineAt_151 rfl ?_
          exact ⟨_, rfl, (by unfold hs_din hs_din3; rw [hH]; rw [if_neg (Int32.not_lt.mpr hF), if_pos (by show hs_pl σ i + 1 < hs_n (hs_din2 (hs_din1 σ i) H); rw [hn3]; exact hG)]; exact hC3.ssc (c := 1) (by decide) (by decide)), hf3.u3 hg_tch1⟩
      · refine hg_aload2 d_S_dineAt_112 ?_
        refine hg_dup d_S_dineAt_113 rfl ?_
        refine hg_getI d_S_dineAt_114 f_S_67 rfl rfl (hX.lt (n := 18) ⟨by decide, by decide⟩ rfl (by omega)) ?_
        refine hg_eq1 (y := hs_hv (hs_din2 (hs_din1 σ i) H) H 3) (hC3.2.2.2.2.2.2.1 H 3 (hn3 ▸ hst) (by decide)) ?_
        refine hg_iconst (v := 1) d_S_dineAt_117 (by decide) ?_
        refine hg_isub d_S_dineAt_118 ?_
        refine hg_putI d_S_dineAt_119 f_S_67 rfl rfl (Or.inl rfl) rfl rfl (hX.lt (n := 18) ⟨by decide, by decide⟩ rfl (by omega)) ?_
        refine hg_aload0 d_S_dineAt_122 ?_
        refine hg_iload1 d_S_dineAt_123 ?_
        refine hg_putI d_S_dineAt_124 f_S_33 rfl rfl (Or.inl rfl) rfl rfl (hX.lt (n := 3) ⟨by decide, by decide⟩ rfl (by omega)) ?_
        refine hg_goto (tgt := 151) d_S_dineAt_127 (by decide) ?_
        refine hg_return d_S_dineAt_151 rfl ?_
        exact ⟨_, rfl, (by unfold hs_din hs_din3; rw [hH]; rw [if_pos (Int32.not_le.mp hF)]; exact (hC3.shv (p := H) (f := 3) (x := hs_hv (hs_din2 (hs_din1 σ i) H) H 3 - 1)).ssc (c := 1) (by decide) (by decide)), (hf3.u3 (hg_tch3 (by omega))).u3 hg_tch1⟩
    refine hg_if_eq (tgt := 105) d_S_dineAt_92 (by decide) (fun hE => ?_) (fun hE => ?_)
    · exact K _ (by rw [show hs_din2 (hs_din1 σ i) H = hs_din1 σ i from if_pos hE]; exact hC2) hf2
    · refine hg_aload0 d_S_dineAt_95 ?_
      refine hg_dup d_S_dineAt_96 rfl ?_
      refine hg_getI d_S_dineAt_97 f_S_39 rfl rfl (hX.lt (n := 3) ⟨by decide, by decide⟩ rfl (by omega)) ?_
      refine hg_eq1 (y := nI (hs_cl σ)) (hC2.2.2.2.1) ?_
      refine hg_iconst (v := 1) d_S_dineAt_100 (by decide) ?_
      refine hg_iadd d_S_dineAt_101 ?_
      refine hg_eq1 (y := nI ((hs_cl σ) + 1)) (nI_add _ _) ?_
      refine hg_putI d_S_dineAt_102 f_S_39 rfl rfl (Or.inl rfl) rfl rfl (hX.lt (n := 3) ⟨by decide, by decide⟩ rfl (by omega)) ?_
      exact K _ (by rw [show hs_din2 (hs_din1 σ i) H = hs_ssc (hs_din1 σ i) 3 (hs_cl (hs_din1 σ i) + 1) from if_neg hE]; exact hC2.ssc (c := 3) (by decide) (by decide)) (hf2.u3 hg_tch1)
  | succ k ih =>
    intro j I1 a3 ha3 hjk hC1 hf1
    have hn6 := hO.1
    have hp : hs_p σ < hs_n σ := by have := hO.2.1; omega
    have hpli : hs_pl σ i < hs_n σ := hg_pl_lt hp (by omega)
    have hplj : hs_pl σ j < hs_n σ := hg_pl_lt hp (by omega)
    obtain ⟨H, hH⟩ : ∃ H, hs_st σ (hs_pl σ j) = H := ⟨_, rfl⟩
    have hst : H < hs_n σ := hH ▸ hO.2.2.1 _ hplj
    refine hg_iload2 d_S_dineAt_2 ?_
    refine hg_aload0 d_S_dineAt_3 ?_
    refine hg_getI d_S_dineAt_4 f_S_29 rfl rfl (hX.lt (n := 3) ⟨by decide, by decide⟩ rfl (by omega)) ?_
    refine hg_eq1 (y := nI (hs_n σ)) (hC1.1) ?_
    refine hg_icmp_ge (tgt := 56) d_S_dineAt_7 (by decide) (fun h_3 => absurd h_3 (nI_ge (by omega) (by omega))) (fun h_3 => ?_)
    refine hg_aload0 d_S_dineAt_10 ?_
    refine hg_iload2 d_S_dineAt_11 ?_
    refine hg_cVi d_S_dineAt_12 l_S_105 rfl rfl (hX.lt (n := 3) ⟨by decide, by decide⟩ rfl (by omega)) rfl (Nat.le_of_ble_eq_true rfl) (m_S_behindPoint (n := hs_n σ) (p := hs_p σ) hX hs hC1.1 hC1.2.1 hn6 (show hs_p σ ≤ hs_n σ by omega) (by omega)) rfl ?_
    rintro _ _ ⟨rfl, rfl⟩
    refine hg_iload1 d_S_dineAt_15 ?_
    refine hg_icmp_eq (tgt := 56) d_S_dineAt_16 (by decide) (fun h_4 => absurd h_4 (fun e => by have := hg_pl_inj hp (by omega) hi ((nI_eq (show hs_pl σ j < 2 ^ 31 by omega) (show hs_pl σ i < 2 ^ 31 by omega)).mp e); omega)) (fun h_4 => ?_)
    refine hg_aload0 d_S_dineAt_19 ?_
    refine hg_getR d_S_dineAt_20 f_S_11 rfl rfl (hX.lt (n := 3) ⟨by decide, by decide⟩ rfl (by omega)) (hR.s0 (by omega)) ?_
    refine hg_aload0 d_S_dineAt_23 ?_
    refine hg_getR d_S_dineAt_24 f_S_17 rfl rfl (hX.lt (n := 3) ⟨by decide, by decide⟩ rfl (by omega)) (hR.s1 (by omega)) ?_
    refine hg_aload0 d_S_dineAt_27 ?_
    refine hg_iload2 d_S_dineAt_28 ?_
    refine hg_cVi d_S_dineAt_29 l_S_105 rfl rfl (hX.lt (n := 3) ⟨by decide, by decide⟩ rfl (by omega)) rfl (Nat.le_of_ble_eq_true rfl) (m_S_behindPoint (n := hs_n σ) (p := hs_p σ) hX hs hC1.1 hC1.2.1 hn6 (show hs_p σ ≤ hs_n σ by omega) (by omega)) rfl ?_
    rintro _ _ ⟨rfl, rfl⟩
    refine hg_iald_n (j := (hs_pl σ j)) d_S_dineAt_32 rfl rfl (hX.lt (n := 3) ⟨by decide, by decide⟩ rfl (by omega)) (hX.jn (n := 6) (by decide) rfl (by omega)) ?_
    refine hg_eq1 (y := nI H) (hH ▸ hC1.2.2.2.2.2.1 _ hplj) ?_
    refine hg_aald_n (j := H) d_S_dineAt_33 rfl (by decide) (hX.lt (n := 3) ⟨by decide, by decide⟩ rfl (by omega)) (hX.jn (n := 6) (by decide) rfl (by omega)) (hR.ha (by omega) (by omega)) ?_
    refine hg_astore3 d_S_dineAt_34 rfl ?_
    refine hg_aload3 d_S_dineAt_35 ?_
    refine hg_bipush (v := 9) d_S_dineAt_36 (by decide) ?_
    refine hg_aload3 d_S_dineAt_38 ?_
    refine hg_getI d_S_dineAt_39 f_S_67 rfl rfl (hX.lt (n := 18) ⟨by decide, by decide⟩ rfl (by omega)) ?_
    refine hg_eq1 (y := hs_ow σ j H 3) (hC1.2.2.2.2.2.2.1 H 3 hst (by decide)) ?_
    refine hg_iconst (v := 1) d_S_dineAt_42 (by decide) ?_
    refine hg_iadd d_S_dineAt_43 ?_
    refine hg_min d_S_dineAt_44 l_S_82 (Nat.le_of_ble_eq_true rfl) ?_
    refine hg_eq1 (y := hs_m9 (hs_ow σ j H 3 + 1)) (rfl) ?_
    refine hg_putI d_S_dineAt_47 f_S_67 rfl rfl (Or.inl rfl) rfl rfl (hX.lt (n := 18) ⟨by decide, by decide⟩ rfl (by omega)) ?_
    refine hg_iinc2 (v := nI (j + 1)) d_S_dineAt_50 rfl (nI_add _ _) ?_
    refine hg_goto (tgt := 2) d_S_dineAt_53 (by decide) ?_
    refine ih (j + 1) _ _ rfl (by omega) ?_ (hf1.u3 (hg_tch3 (by omega)))
    show hs_C s (hs_sw σ (hs_u2 (hs_ow σ j) (hs_st σ (hs_pl σ j)) 3 (hs_m9 (hs_ow σ j (hs_st σ (hs_pl σ j)) 3 + 1)))) _ _
    rw [hH]; exact hC1.shv (p := H) (f := 3) (x := hs_m9 (hs_ow σ j H 3 + 1))
theorem m_S_dineAt {σ : hs_S} {s i : Nat} (hX : hg_XS T X) (hR : hg_SR T Rf) (hs : s < 3) (hC : hs_C s σ I Rf) (hO : hs_ok T σ) (hi : i < hs_n σ) (hw : hs_wk σ < 2 ^ 31) : hg_MC l E (d + 2) Y_S_dineAt 0 0 [.ref (hg_ad E 1 s), .int (nI (hs_pl σ i))] (I, Lg, Rf, X) (hg_v (fun M' => ∃ I' : Nat → Nat → Nat → Int32, M' = (I', Lg, Rf, X) ∧ hs_C s (hs_din σ i) I' Rf ∧ hg_fr s I' I)) := by
  refine hg_mc k_S_dineAt (Nat.le_of_ble_eq_true rfl) ?_
  show hg_WP l E _ Y_S_dineAt 0 0 0 [some (.ref (hg_ad E 1 s)), some (.int (nI (hs_pl σ i))), none, none] [] (I, Lg, Rf, X) _
  refine hg_iconst (v := 0) d_S_dineAt_0 (by decide) ?_
  refine hg_istore2 d_S_dineAt_1 rfl ?_
  exact m_S_dineAt_loop hX hR hs hC hO hi hw _ 0 I none rfl (Nat.zero_add _) hC hg_fr.rf

theorem m_S_thursday {tw : hs_W} {σ : hs_S} {s : Nat} (hX : hg_XS T X) (hR : hg_SR T Rf) (hs : s < 3) (hC : hs_C s σ I Rf) (hO : hs_ok T σ) (hW : hc_TW T tw I X) (hw : hs_wk σ < 2 ^ 31) : hg_MC l E (d + 5) Y_S_thursday 0 0 [.ref (hg_ad E 1 s)] (I, Lg, Rf, X) (hg_i (fun v M' => ∃ I' : Nat → Nat → Nat → Int32, v = hs_hov (hs_ho tw σ) ∧ M' = (I', Lg, Rf, X) ∧ hs_C s (hs_thu tw σ) I' Rf ∧ hg_fr s I' I)) := by
  have hn6 := hO.1
  refine hg_mc k_S_thursday (Nat.le_of_ble_eq_true rfl) ?_
  show hg_WP l E _ Y_S_thursday 0 0 0 [some (.ref (hg_ad E 1 s)), none, none] [] (I, Lg, Rf, X) _
  refine hg_aload0 d_S_thursday_0 ?_
  refine hg_cVi d_S_thursday_1 l_S_101 rfl rfl (hX.lt (n := 3) ⟨by decide, by decide⟩ rfl (by omega)) rfl (Nat.le_of_ble_eq_true rfl) (m_S_hostPlace hX hR hs hC hO hW hw) rfl ?_
  rintro _ _ ⟨I1, rfl, rfl, he1⟩
  have hC1 := hC.e6 he1
  cases hhp : hs_hp tw σ with
  | none =>
    show hg_WP l E _ Y_S_thursday 0 0 4 [some (.ref (hg_ad E 1 s)), none, none] [.int (-1)] (I1, Lg, Rf, X) _
    refine hg_istore1 d_S_thursday_4 rfl ?_
    refine hg_iload1 d_S_thursday_5 ?_
    refine hg_if_ge (tgt := 13) d_S_thursday_6 (by decide) (fun h_1 => absurd h_1 (by decide)) (fun h_1 => ?_)
    refine hg_iconst (v := (-1)) d_S_thursday_9 (by decide) ?_
    refine hg_goto (tgt := 19) d_S_thursday_10 (by decide) ?_
    refine hg_istore2 d_S_thursday_19 rfl ?_
    refine hg_iload1 d_S_thursday_20 ?_
    refine hg_if_ge (tgt := 37) d_S_thursday_21 (by decide) (fun h_2 => absurd h_2 (by decide)) (fun h_2 => ?_)
    refine hg_aload0 d_S_thursday_24 ?_
    refine hg_dup d_S_thursday_25 rfl ?_
    refine hg_getI d_S_thursday_26 f_S_36 rfl rfl (hX.lt (n := 3) ⟨by decide, by decide⟩ rfl (by omega)) ?_
    refine hg_eq1 (y := nI (hs_hu σ)) (hC1.2.2.1) ?_
    refine hg_iconst (v := 1) d_S_thursday_29 (by decide) ?_
    refine hg_iadd d_S_thursday_30 ?_
    refine hg_eq1 (y := nI ((hs_hu σ) + 1)) (nI_add _ _) ?_
    refine hg_putI d_S_thursday_31 f_S_36 rfl rfl (Or.inl rfl) rfl rfl (hX.lt (n := 3) ⟨by decide, by decide⟩ rfl (by omega)) ?_
    refine hg_goto (tgt := 42) d_S_thursday_34 (by decide) ?_
    refine hg_aload0 d_S_thursday_42 ?_
    refine hg_dup d_S_thursday_43 rfl ?_
    refine hg_getI d_S_thursday_44 f_S_42 rfl rfl (hX.lt (n := 3) ⟨by decide, by decide⟩ rfl (by omega)) ?_
    refine hg_eq1 (y := I1 1 s 6) (by simp [hg_u3]) ?_
    refine hg_eq1 (y := nI (hs_wk σ)) (hC1.2.2.2.2.1) ?_
    refine hg_iconst (v := 1) d_S_thursday_47 (by decide) ?_
    refine hg_iadd d_S_thursday_48 ?_
    refine hg_eq1 (y := nI ((hs_wk σ) + 1)) (nI_add _ _) ?_
    refine hg_putI d_S_thursday_49 f_S_42 rfl rfl (Or.inl rfl) rfl rfl (hX.lt (n := 3) ⟨by decide, by decide⟩ rfl (by omega)) ?_
    refine hg_iload2 d_S_thursday_52 ?_
    refine hg_ireturn d_S_thursday_53 rfl rfl ?_
    refine ⟨_, ?_, rfl, ?_, (he1.fr.u3 hg_tch1).u3 hg_tch1⟩
    · unfold hs_ho; rw [hhp]; rfl
    · unfold hs_thu; rw [hhp]; exact (hC1.ssc (c := 2) (by decide) (by decide)).ssc (c := 4) (by decide) (by decide)
  | some i =>
    have hi := hs_hp_lt hhp
    have hp : hs_p σ < hs_n σ := by have := hO.2.1; omega
    have hpl : hs_pl σ i < hs_n σ := hg_pl_lt hp (Nat.le_of_lt hi)
    have hst := hO.2.2.1 _ hpl
    show hg_WP l E _ Y_S_thursday 0 0 4 [some (.ref (hg_ad E 1 s)), none, none] [.int (nI (hs_pl σ i))] (I1, Lg, Rf, X) _
    refine hg_istore1 d_S_thursday_4 rfl ?_
    refine hg_iload1 d_S_thursday_5 ?_
    refine hg_if_ge (tgt := 13) d_S_thursday_6 (by decide) (fun h_3 => ?_) (fun h_3 => absurd (nI_pos' (by omega)) h_3)
    refine hg_aload0 d_S_thursday_13 ?_
    refine hg_getR d_S_thursday_14 f_S_17 rfl rfl (hX.lt (n := 3) ⟨by decide, by decide⟩ rfl (by omega)) (hR.s1 (by omega)) ?_
    refine hg_iload1 d_S_thursday_17 ?_
    refine hg_iald_n (j := (hs_pl σ i)) d_S_thursday_18 rfl rfl (hX.lt (n := 3) ⟨by decide, by decide⟩ rfl (by omega)) (hX.jn (n := 6) (by decide) rfl (by omega)) ?_
    refine hg_eq1 (y := nI (hs_st σ (hs_pl σ i))) (hC1.2.2.2.2.2.1 _ hpl) ?_
    refine hg_istore2 d_S_thursday_19 rfl ?_
    refine hg_iload1 d_S_thursday_20 ?_
    refine hg_if_ge (tgt := 37) d_S_thursday_21 (by decide) (fun h_4 => ?_) (fun h_4 => absurd (nI_pos' (by omega)) h_4)
    refine hg_aload0 d_S_thursday_37 ?_
    refine hg_iload1 d_S_thursday_38 ?_
    refine hg_cVv d_S_thursday_39 l_S_114 rfl rfl (hX.lt (n := 3) ⟨by decide, by decide⟩ rfl (by omega)) rfl (Nat.le_of_ble_eq_true rfl) (m_S_dineAt hX hR hs hC1 hO hi hw) rfl ?_
    rintro _ ⟨I2, rfl, hC2, hf2⟩
    refine hg_aload0 d_S_thursday_42 ?_
    refine hg_dup d_S_thursday_43 rfl ?_
    refine hg_getI d_S_thursday_44 f_S_42 rfl rfl (hX.lt (n := 3) ⟨by decide, by decide⟩ rfl (by omega)) ?_
    refine hg_eq1 (y := nI (hs_wk σ)) (by rw [hC2.2.2.2.2.1, (hs_din_all σ i).2.2.1]) ?_
    refine hg_iconst (v := 1) d_S_thursday_47 (by decide) ?_
    refine hg_iadd d_S_thursday_48 ?_
    refine hg_eq1 (y := nI ((hs_wk σ) + 1)) (nI_add _ _) ?_
    refine hg_putI d_S_thursday_49 f_S_42 rfl rfl (Or.inl rfl) rfl rfl (hX.lt (n := 3) ⟨by decide, by decide⟩ rfl (by omega)) ?_
    refine hg_iload2 d_S_thursday_52 ?_
    refine hg_ireturn d_S_thursday_53 rfl rfl ?_
    refine ⟨_, ?_, rfl, ?_, (hf2.tr he1.fr).u3 hg_tch1⟩
    · unfold hs_ho; rw [hhp]; rfl
    · unfold hs_thu; rw [hhp]; have := hC2.ssc (c := 4) (v := hs_wk σ + 1) (by decide) (by decide); have e3 := (hs_din_all σ i).2.2.1; show hs_C s (hs_ssc (hs_din σ i) 4 (hs_wk (hs_din σ i) + 1)) _ _; rw [e3]; exact this

theorem m_S_thursdays_loop {tw : hs_W} {σ : hs_S} {s n : Nat} (hX : hg_XS T X) (hR : hg_SR T Rf) (hs : s < 3) (hC : hs_C s σ I Rf) (hO : hs_ok T σ) (hW : hc_TW T tw I X) (hw : hs_wk σ + n < 2 ^ 31) : ∀ (k i : Nat) (I1 : Nat → Nat → Nat → Int32), i + k = n → hs_C s (hs_th tw σ i) I1 Rf → hg_fr s I1 I → hg_WP l E (d + 5) Y_S_thursdays 0 0 2 [some (.ref (hg_ad E 1 s)), some (.int (nI n)), some (.int (nI i))] [] (I1, Lg, Rf, X) (hg_v (fun M' => ∃ I' : Nat → Nat → Nat → Int32, M' = (I', Lg, Rf, X) ∧ hs_C s (hs_th tw σ n) I' Rf ∧ hg_fr s I' I)) := by
  intro k
  induction k with
  | zero =>
    intro i I1 hik hC1 hf1
    obtain rfl : i = n := by omega
    refine hg_iload2 d_S_thursdays_2 ?_
    refine hg_iload1 d_S_thursdays_3 ?_
    refine hg_icmp_ge (tgt := 18) d_S_thursdays_4 (by decide) (fun h_1 => ?_) (fun h_1 => absurd (Int32.le_refl _) h_1)
    refine hg_return d_S_thursdays_18 rfl ?_
    exact ⟨I1, rfl, hC1, hf1⟩
  | succ k ih =>
    intro i I1 hik hC1 hf1
    obtain ⟨hOi, hwi, -, -⟩ := hs_th_all (tw := tw) hO i
    refine hg_iload2 d_S_thursdays_2 ?_
    refine hg_iload1 d_S_thursdays_3 ?_
    refine hg_icmp_ge (tgt := 18) d_S_thursdays_4 (by decide) (fun h_2 => absurd h_2 (nI_ge (by omega) (by omega))) (fun h_2 => ?_)
    refine hg_aload0 d_S_thursdays_7 ?_
    refine hg_cVi d_S_thursdays_8 l_S_111 rfl rfl (hX.lt (n := 3) ⟨by decide, by decide⟩ rfl (by omega)) rfl (Nat.le_of_ble_eq_true rfl) (m_S_thursday hX hR hs hC1 hOi (hW.fr hf1) (by omega)) rfl ?_
    rintro _ _ ⟨I2, rfl, rfl, hC2, hf2⟩
    refine hg_pop d_S_thursdays_11 rfl ?_
    refine hg_iinc2 (v := nI (i + 1)) d_S_thursdays_12 rfl (nI_add _ _) ?_
    refine hg_goto (tgt := 2) d_S_thursdays_15 (by decide) ?_
    exact ih (i + 1) I2 (by omega) hC2 (hf2.tr hf1)
theorem m_S_thursdays {tw : hs_W} {σ : hs_S} {s n : Nat} (hX : hg_XS T X) (hR : hg_SR T Rf) (hs : s < 3) (hC : hs_C s σ I Rf) (hO : hs_ok T σ) (hW : hc_TW T tw I X) (hw : hs_wk σ + n < 2 ^ 31) : hg_MC l E (d + 6) Y_S_thursdays 0 0 [.ref (hg_ad E 1 s), .int (nI n)] (I, Lg, Rf, X) (hg_v (fun M' => ∃ I' : Nat → Nat → Nat → Int32, M' = (I', Lg, Rf, X) ∧ hs_C s (hs_th tw σ n) I' Rf ∧ hg_fr s I' I)) := by
  refine hg_mc k_S_thursdays (Nat.le_of_ble_eq_true rfl) ?_
  show hg_WP l E _ Y_S_thursdays 0 0 0 [some (.ref (hg_ad E 1 s)), some (.int (nI n)), none] [] (I, Lg, Rf, X) _
  refine hg_iconst (v := 0) d_S_thursdays_0 (by decide) ?_
  refine hg_istore2 d_S_thursdays_1 rfl ?_
  exact m_S_thursdays_loop hX hR hs hC hO hW hw _ 0 I (Nat.zero_add _) hC hg_fr.rf

end M4
