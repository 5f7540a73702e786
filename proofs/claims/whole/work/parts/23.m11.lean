/-! HangmanDinner: odds, means, plans, what can be -/
section M11
variable {l : Launch} {E : hg_E} {d T : Nat}
variable {I : Nat → Nat → Nat → Int32} {Lg : Nat → Nat → Nat → Int64} {Rf : Nat → Nat → Nat → Option (Nat × Nat)} {X : Nat × (Nat → Nat) × (Nat → Nat → Nat)}
variable {tw : hs_W} {σ : hs_S}
variable {I1 I2 : Nat → Nat → Nat → Int32} {Rf1 Rf2 : Nat → Nat → Nat → Option (Nat × Nat)}
theorem m_D_odds_loop {h q : Nat} (hE : hq_E T tw σ I Rf X) (hw : hs_wk σ ≤ 9999) (hh : h < hs_n σ) (hq : q < 2) : ∀ (k i : Nat) (I1 : Nat → Nat → Nat → Int32) (Rf1 : Nat → Nat → Nat → Option (Nat × Nat)), i + k = hs_n σ → hg_sc I1 I → hg_rx Rf1 Rf → hg_WP l E (d + 6) Y_D_odds 0 0 28 [some (.ref (hg_ad E 0 0)), some (.int (nI h)), some (.int (nI q)), some (.int (nI (hs_cnt (fun k => hs_B (hs_ho tw (hs_shv σ k 6 1) = some h)) i))), some (.int (nI i))] [] (I1, Lg, Rf1, X) (hg_l (fun v M' => hq_A v (sp_odds tw σ (nI h) (nI q)) I Lg Rf X M')) := by
  intro k
  induction k with
  | zero =>
    intro i I1 Rf1 hik hs hr
    obtain ⟨hX, hR, hC1, hO, hW⟩ := hE.sc hs hr
    obtain rfl : i = hs_n σ := by omega
    have hn6 := hO.1
    have hcl := hs_cnt_le (fun k => hs_B (hs_ho tw (hs_shv σ k 6 1) = some h)) (hs_n σ)
    refine hg_iload4 d_D_odds_28 ?_
    refine hg_aload0 d_D_odds_30 ?_
    refine hg_getR d_D_odds_31 f_D_69 rfl rfl (hX.lt (n := 1) ⟨by decide, by decide⟩ rfl (by omega)) (hR.D (j := 0) (q := (1, 0)) rfl) ?_
    refine hg_getI d_D_odds_34 f_D_185 rfl rfl (hX.lt (n := 3) ⟨by decide, by decide⟩ rfl (by omega)) ?_
    refine hg_eq1 (y := nI (hs_n σ)) (hC1.1) ?_
    refine hg_icmp_ge (tgt := 85) d_D_odds_37 (by decide) (fun h_1 => ?_) (fun h_1 => absurd (Int32.le_refl _) h_1)
    refine hg_iload3 d_D_odds_85 ?_
    refine hg_aload0 d_D_odds_86 ?_
    refine hg_getR d_D_odds_87 f_D_69 rfl rfl (hX.lt (n := 1) ⟨by decide, by decide⟩ rfl (by omega)) (hR.D (j := 0) (q := (1, 0)) rfl) ?_
    refine hg_getI d_D_odds_90 f_D_185 rfl rfl (hX.lt (n := 3) ⟨by decide, by decide⟩ rfl (by omega)) ?_
    refine hg_eq1 (y := nI (hs_n σ)) (hC1.1) ?_
    refine hg_iload2 d_D_odds_93 ?_
    refine hg_cSl d_D_odds_94 l_D_235 rfl (Nat.le_of_ble_eq_true rfl) (m_D_lowest (a := hs_cnt (fun k => hs_B (hs_ho tw (hs_shv σ k 6 1) = some h)) (hs_n σ)) (b := hs_n σ) (by omega) (by omega) (by omega)) rfl ?_
    rintro _ _ ⟨rfl, rfl⟩
    refine hg_lreturn d_D_odds_97 rfl ?_
    refine ⟨?_, I1, Rf1, rfl, hs, hr⟩
    rw [hs_fr_i hq]; unfold sp_odds; rw [hs_ix_s hh (by omega), hs_ix_s hq (by decide)]
  | succ k ih =>
    intro i I1 Rf1 hik hs hr
    obtain ⟨hX, hR, hC1, hO, hW⟩ := hE.sc hs hr
    have hn6 := hO.1
    refine hg_iload4 d_D_odds_28 ?_
    refine hg_aload0 d_D_odds_30 ?_
    refine hg_getR d_D_odds_31 f_D_69 rfl rfl (hX.lt (n := 1) ⟨by decide, by decide⟩ rfl (by omega)) (hR.D (j := 0) (q := (1, 0)) rfl) ?_
    refine hg_getI d_D_odds_34 f_D_185 rfl rfl (hX.lt (n := 3) ⟨by decide, by decide⟩ rfl (by omega)) ?_
    refine hg_eq1 (y := nI (hs_n σ)) (hC1.1) ?_
    refine hg_icmp_ge (tgt := 85) d_D_odds_37 (by decide) (fun h_2 => absurd h_2 (nI_ge (by omega) (by omega))) (fun h_2 => ?_)
    refine hg_aload0 d_D_odds_40 ?_
    refine hg_getR d_D_odds_41 f_D_73 rfl rfl (hX.lt (n := 1) ⟨by decide, by decide⟩ rfl (by omega)) (hR.D (j := 1) (q := (1, 1)) rfl) ?_
    refine hg_aload0 d_D_odds_44 ?_
    refine hg_getR d_D_odds_45 f_D_69 rfl rfl (hX.lt (n := 1) ⟨by decide, by decide⟩ rfl (by omega)) (hR.D (j := 0) (q := (1, 0)) rfl) ?_
    refine hg_cVv d_D_odds_48 l_D_191 rfl rfl (hX.lt (n := 3) ⟨by decide, by decide⟩ rfl (by omega)) rfl (Nat.le_of_ble_eq_true rfl) (m_S_become (s := 1) (s2 := 0) hX hR (by decide) (by decide) (by decide) hC1 hO) rfl ?_
    rintro _ ⟨I2, rfl, hB2, hfB2⟩
    refine hg_aload0 d_D_odds_51 ?_
    refine hg_getR d_D_odds_52 f_D_73 rfl rfl (hX.lt (n := 1) ⟨by decide, by decide⟩ rfl (by omega)) (hR.D (j := 1) (q := (1, 1)) rfl) ?_
    refine hg_getR d_D_odds_55 f_D_195 rfl rfl (hX.lt (n := 3) ⟨by decide, by decide⟩ rfl (by omega)) (hR.s0 (by omega)) ?_
    refine hg_iload4 d_D_odds_58 ?_
    refine hg_aald_n (j := i) d_D_odds_60 rfl (by decide) (hX.lt (n := 3) ⟨by decide, by decide⟩ rfl (by omega)) (hX.jn (n := 6) (by decide) rfl (by omega)) (hR.ha (by omega) (by omega)) ?_
    refine hg_iconst (v := 1) d_D_odds_61 (by decide) ?_
    refine hg_putI d_D_odds_62 f_D_113 rfl rfl (Or.inl rfl) rfl rfl (hX.lt (n := 18) ⟨by decide, by decide⟩ rfl (by omega)) ?_
    refine hg_aload0 d_D_odds_65 ?_
    refine hg_getR d_D_odds_66 f_D_73 rfl rfl (hX.lt (n := 1) ⟨by decide, by decide⟩ rfl (by omega)) (hR.D (j := 1) (q := (1, 1)) rfl) ?_
    have hO2 : hs_ok T (hs_shv σ i 6 1) := hO.shv (by decide) (by decide) (fun _ => Or.inr rfl)
    have hfu : hg_fr 1 (hg_u3 I2 3 (6 * 1 + i) 6 1) I1 := hfB2.u3 (hg_tch3 (by omega))
    refine hg_cVi d_D_odds_69 l_D_173 rfl rfl (hX.lt (n := 3) ⟨by decide, by decide⟩ rfl (by omega)) rfl (Nat.le_of_ble_eq_true rfl) (m_S_host (s := 1) (σ := hs_shv σ i 6 1) hX hR.tn (by decide) hB2.shv hO2 (hW.fr hfu) (by show hs_wk σ < 2 ^ 31; omega)) rfl ?_
    rintro _ _ ⟨I3, rfl, rfl, he3⟩
    refine hg_iload1 d_D_odds_72 ?_
    refine hg_icmp_ne (tgt := 79) d_D_odds_73 (by decide) (fun hho => ?_) (fun hho => ?_)
    · refine hg_iinc4 (v := nI (i + 1)) d_D_odds_79 rfl (nI_add _ _) ?_
      refine hg_goto (tgt := 28) d_D_odds_82 (by decide) ?_
      have hx : ∀ x, hs_ho tw (hs_shv σ i 6 1) = some x → x < 6 := fun x hx => by have := hs_ho_lt hO2 hx; have : x < hs_n σ := this; omega
      have := ih (i + 1) I3 (hg_u3 Rf1 1 1 7 (some (19, hs_tn σ))) (by omega) ((hg_e6.sc he3).tr (hfu.sc.tr hs)) (hg_rx.u3.tr hr)
      rwa [show hs_cnt (fun k => hs_B (hs_ho tw (hs_shv σ k 6 1) = some h)) (i + 1) = hs_cnt (fun k => hs_B (hs_ho tw (hs_shv σ k 6 1) = some h)) i from if_neg (fun z => hho ((hs_hov_eq hx (by omega)).mpr (hs_B_t.mp z)))] at this
    · replace hho := Decidable.not_not.mp hho
      refine hg_iinc3 (v := nI ((hs_cnt (fun k => hs_B (hs_ho tw (hs_shv σ k 6 1) = some h)) i) + 1)) d_D_odds_76 rfl (nI_add _ _) ?_
      refine hg_iinc4 (v := nI (i + 1)) d_D_odds_79 rfl (nI_add _ _) ?_
      refine hg_goto (tgt := 28) d_D_odds_82 (by decide) ?_
      have hx : ∀ x, hs_ho tw (hs_shv σ i 6 1) = some x → x < 6 := fun x hx => by have := hs_ho_lt hO2 hx; have : x < hs_n σ := this; omega
      have := ih (i + 1) I3 (hg_u3 Rf1 1 1 7 (some (19, hs_tn σ))) (by omega) ((hg_e6.sc he3).tr (hfu.sc.tr hs)) (hg_rx.u3.tr hr)
      rwa [show hs_cnt (fun k => hs_B (hs_ho tw (hs_shv σ k 6 1) = some h)) (i + 1) = hs_cnt (fun k => hs_B (hs_ho tw (hs_shv σ k 6 1) = some h)) i + 1 from if_pos (hs_B_t.mpr ((hs_hov_eq hx (by omega)).mp hho))] at this
theorem m_D_odds {x p : Int32} (hE : hq_E T tw σ I Rf X) (hw : hs_wk σ ≤ 9999) : hg_MC l E (d + 7) Y_D_odds 0 0 [.ref (hg_ad E 0 0), .int x, .int p] (I, Lg, Rf, X) (hg_l (fun v M' => hq_A v (sp_odds tw σ x p) I Lg Rf X M')) := by
  obtain ⟨hX, hR, hC, hO, hW⟩ := id hE
  have hn6 := hO.1
  refine hg_mc k_D_odds (Nat.le_of_ble_eq_true rfl) ?_
  show hg_WP l E _ Y_D_odds 0 0 0 [some (.ref (hg_ad E 0 0)), some (.int x), some (.int p), none, none] [] (I, Lg, Rf, X) _
  refine hg_aload0 d_D_odds_0 ?_
  refine hg_getR d_D_odds_1 f_D_69 rfl rfl (hX.lt (n := 1) ⟨by decide, by decide⟩ rfl (by omega)) (hR.D (j := 0) (q := (1, 0)) rfl) ?_
  refine hg_iload1 d_D_odds_4 ?_
  refine hg_cVi d_D_odds_5 l_D_131 rfl rfl (hX.lt (n := 3) ⟨by decide, by decide⟩ rfl (by omega)) rfl (Nat.le_of_ble_eq_true rfl) (m_S_has hX (by decide) hC.1 hn6) rfl ?_
  rintro _ _ ⟨⟨hha, rfl⟩ | ⟨hha, rfl⟩, rfl⟩
  · obtain ⟨h, hh, eh⟩ := hha
    have iha : hs_ix (hs_n σ) x = some h := by rw [eh]; exact hs_ix_s hh (by omega)
    subst eh
    show hg_WP l E _ Y_D_odds 0 0 8 [some (.ref (hg_ad E 0 0)), some (.int (nI h)), some (.int p), none, none] [.int 1] (I, Lg, Rf, X) _
    refine hg_if_eq (tgt := 19) d_D_odds_8 (by decide) (fun h_1 => absurd h_1 (by decide)) (fun h_1 => ?_)
    refine hg_iload2 d_D_odds_11 ?_
    refine hg_iconst (v := 1) d_D_odds_12 (by decide) ?_
    refine hg_cSi d_D_odds_13 l_D_80 rfl (Nat.le_of_ble_eq_true rfl) (m_D_within (b := 1) (by decide)) rfl ?_
    rintro _ _ ⟨⟨hhb, rfl⟩ | ⟨hhb, rfl⟩, rfl⟩
    · obtain ⟨q, hq, eq⟩ := hhb
      have ihb : hs_ix 2 p = some q := by rw [eq]; exact hs_ix_s (by omega) (by decide)
      subst eq
      show hg_WP l E _ Y_D_odds 0 0 16 [some (.ref (hg_ad E 0 0)), some (.int (nI h)), some (.int (nI q)), none, none] [.int 1] (I, Lg, Rf, X) _
      refine hg_if_ne (tgt := 23) d_D_odds_16 (by decide) (fun h_2 => ?_) (fun h_2 => absurd (by decide) h_2)
      refine hg_iconst (v := 0) d_D_odds_23 (by decide) ?_
      refine hg_istore3 d_D_odds_24 rfl ?_
      refine hg_iconst (v := 0) d_D_odds_25 (by decide) ?_
      refine hg_istore4 d_D_odds_26 rfl ?_
      exact m_D_odds_loop hE hw hh (by omega) _ 0 I Rf (Nat.zero_add _) hg_sc.rf hg_rx.rf
    · have ihb : hs_ix 2 p = none := hs_ix_n2 hhb
      refine hg_if_ne (tgt := 23) d_D_odds_16 (by decide) (fun h_3 => absurd h_3 (by decide)) (fun h_3 => ?_)
      refine hg_ldc2 d_D_odds_19 c_D_233 ?_
      refine hg_lreturn d_D_odds_22 rfl ?_
      refine ⟨?_, I, Rf, rfl, hg_sc.rf, hg_rx.rf⟩
      simp [sp_odds, iha, ihb]
  · have iha : hs_ix (hs_n σ) x = none := hs_ix_n hha
    refine hg_if_eq (tgt := 19) d_D_odds_8 (by decide) (fun h_4 => ?_) (fun h_4 => absurd (by decide) h_4)
    refine hg_ldc2 d_D_odds_19 c_D_233 ?_
    refine hg_lreturn d_D_odds_22 rfl ?_
    refine ⟨?_, I, Rf, rfl, hg_sc.rf, hg_rx.rf⟩
    simp [sp_odds, iha]

theorem m_D_mean_loop {m q : Nat} (hE : hq_E T tw σ I Rf X) (hw : hs_wk σ ≤ 9999) (hm : m ≤ 60) (hq : q < 2) (hn0 : 0 < hs_n σ) (hC2 : hs_C 1 (hs_th tw σ m) I1 Rf1) (hs : hg_sc I1 I) (hr : hg_rx Rf1 Rf) : ∀ (k i : Nat), i + k = hs_n σ → hg_WP l E (d + 6) Y_D_mean 0 0 55 [some (.ref (hg_ad E 0 0)), some (.int (nI m)), some (.int (nI q)), some (.int (nI (hs_sm (fun h => (hs_hv (hs_th tw σ m) h 4).toNatClampNeg) i))), some (.int (nI i))] [] (I1, Lg, Rf1, X) (hg_l (fun v M' => hq_A v (sp_mean tw σ (nI m) (nI q)) I Lg Rf X M')) := by
  obtain ⟨hX, hR, hC1, hO, hW⟩ := hE.sc hs hr
  obtain ⟨hO2, hw2, hn2, -⟩ := hs_th_all (tw := tw) hO m
  have hn6 := hO.1
  have hkd : ∀ h, h < hs_n σ → hs_hv (hs_th tw σ m) h 4 = nI ((fun h => (hs_hv (hs_th tw σ m) h 4).toNatClampNeg) h) ∧ (fun h => (hs_hv (hs_th tw σ m) h 4).toNatClampNeg) h ≤ 10059 := fun h hh => by
    obtain ⟨-, ⟨kd, h1, h2⟩, -⟩ := hO2.2.2.2.2.1 h (by omega)
    refine ⟨nI_cn h2 (by omega), ?_⟩
    show (hs_hv _ h 4).toNatClampNeg ≤ _
    rw [h2, nI_clamp (by omega)]; omega
  intro k
  induction k with
  | zero =>
    intro i hik
    obtain rfl : i = hs_n σ := by omega
    have hsl := hs_sm_le (hs_n σ) (fun h hh => (hkd h hh).2)
    refine hg_iload4 d_D_mean_55 ?_
    refine hg_aload0 d_D_mean_57 ?_
    refine hg_getR d_D_mean_58 f_D_73 rfl rfl (hX.lt (n := 1) ⟨by decide, by decide⟩ rfl (by omega)) (hR.D (j := 1) (q := (1, 1)) rfl) ?_
    refine hg_getI d_D_mean_61 f_D_185 rfl rfl (hX.lt (n := 3) ⟨by decide, by decide⟩ rfl (by omega)) ?_
    refine hg_eq1 (y := nI (hs_n σ)) (by rw [hC2.1, hn2]) ?_
    refine hg_icmp_ge (tgt := 89) d_D_mean_64 (by decide) (fun h_1 => ?_) (fun h_1 => absurd (Int32.le_refl _) h_1)
    refine hg_iload3 d_D_mean_89 ?_
    refine hg_aload0 d_D_mean_90 ?_
    refine hg_getR d_D_mean_91 f_D_73 rfl rfl (hX.lt (n := 1) ⟨by decide, by decide⟩ rfl (by omega)) (hR.D (j := 1) (q := (1, 1)) rfl) ?_
    refine hg_getI d_D_mean_94 f_D_185 rfl rfl (hX.lt (n := 3) ⟨by decide, by decide⟩ rfl (by omega)) ?_
    refine hg_eq1 (y := nI (hs_n σ)) (by rw [hC2.1, hn2]) ?_
    refine hg_iload2 d_D_mean_97 ?_
    refine hg_cSl d_D_mean_98 l_D_235 rfl (Nat.le_of_ble_eq_true rfl) (m_D_lowest (a := hs_sm (fun h => (hs_hv (hs_th tw σ m) h 4).toNatClampNeg) (hs_n σ)) (b := hs_n σ) (by omega) (by omega) (by omega)) rfl ?_
    rintro _ _ ⟨rfl, rfl⟩
    refine hg_lreturn d_D_mean_101 rfl ?_
    refine ⟨?_, I1, Rf1, rfl, hs, hr⟩
    rw [hs_fr_i hq]; unfold sp_mean; rw [hs_ix_s (show m < 61 by omega) (by decide), hs_ix_s hq (by decide)]; exact (if_neg (by omega)).symm
  | succ k ih =>
    intro i hik
    refine hg_iload4 d_D_mean_55 ?_
    refine hg_aload0 d_D_mean_57 ?_
    refine hg_getR d_D_mean_58 f_D_73 rfl rfl (hX.lt (n := 1) ⟨by decide, by decide⟩ rfl (by omega)) (hR.D (j := 1) (q := (1, 1)) rfl) ?_
    refine hg_getI d_D_mean_61 f_D_185 rfl rfl (hX.lt (n := 3) ⟨by decide, by decide⟩ rfl (by omega)) ?_
    refine hg_eq1 (y := nI (hs_n σ)) (by rw [hC2.1, hn2]) ?_
    refine hg_icmp_ge (tgt := 89) d_D_mean_64 (by decide) (fun h_2 => absurd h_2 (nI_ge (by omega) (by omega))) (fun h_2 => ?_)
    refine hg_iload3 d_D_mean_67 ?_
    refine hg_aload0 d_D_mean_68 ?_
    refine hg_getR d_D_mean_69 f_D_73 rfl rfl (hX.lt (n := 1) ⟨by decide, by decide⟩ rfl (by omega)) (hR.D (j := 1) (q := (1, 1)) rfl) ?_
    refine hg_getR d_D_mean_72 f_D_195 rfl rfl (hX.lt (n := 3) ⟨by decide, by decide⟩ rfl (by omega)) (hR.s0 (by omega)) ?_
    refine hg_iload4 d_D_mean_75 ?_
    refine hg_aald_n (j := i) d_D_mean_77 rfl (by decide) (hX.lt (n := 3) ⟨by decide, by decide⟩ rfl (by omega)) (hX.jn (n := 6) (by decide) rfl (by omega)) (hR.ha (by omega) (by omega)) ?_
    refine hg_getI d_D_mean_78 f_D_107 rfl rfl (hX.lt (n := 18) ⟨by decide, by decide⟩ rfl (by omega)) ?_
    refine hg_eq1 (y := nI ((fun h => (hs_hv (hs_th tw σ m) h 4).toNatClampNeg) i)) ((hC2.2.2.2.2.2.2.1 i 4 (by omega) (by decide)).trans (hkd i (by omega)).1) ?_
    refine hg_iadd d_D_mean_81 ?_
    refine hg_eq1 (y := nI ((hs_sm (fun h => (hs_hv (hs_th tw σ m) h 4).toNatClampNeg) i) + ((fun h => (hs_hv (hs_th tw σ m) h 4).toNatClampNeg) i))) (nI_add _ _) ?_
    refine hg_istore3 d_D_mean_82 rfl ?_
    refine hg_iinc4 (v := nI (i + 1)) d_D_mean_83 rfl (nI_add _ _) ?_
    refine hg_goto (tgt := 55) d_D_mean_86 (by decide) ?_
    exact ih (i + 1) (by omega)
theorem m_D_mean {x p : Int32} (hE : hq_E T tw σ I Rf X) (hw : hs_wk σ ≤ 9999) : hg_MC l E (d + 7) Y_D_mean 0 0 [.ref (hg_ad E 0 0), .int x, .int p] (I, Lg, Rf, X) (hg_l (fun v M' => hq_A v (sp_mean tw σ x p) I Lg Rf X M')) := by
  obtain ⟨hX, hR, hC, hO, hW⟩ := id hE
  have hn6 := hO.1
  refine hg_mc k_D_mean (Nat.le_of_ble_eq_true rfl) ?_
  show hg_WP l E _ Y_D_mean 0 0 0 [some (.ref (hg_ad E 0 0)), some (.int x), some (.int p), none, none] [] (I, Lg, Rf, X) _
  refine hg_iload1 d_D_mean_0 ?_
  refine hg_bipush (v := 60) d_D_mean_1 (by decide) ?_
  refine hg_cSi d_D_mean_3 l_D_80 rfl (Nat.le_of_ble_eq_true rfl) (m_D_within (b := 60) (by decide)) rfl ?_
  rintro _ _ ⟨⟨hhb, rfl⟩ | ⟨hhb, rfl⟩, rfl⟩
  · obtain ⟨m, hm, em⟩ := hhb
    have ihb : hs_ix 61 x = some m := by rw [em]; exact hs_ix_s (by omega) (by decide)
    subst em
    show hg_WP l E _ Y_D_mean 0 0 6 [some (.ref (hg_ad E 0 0)), some (.int (nI m)), some (.int p), none, none] [.int 1] (I, Lg, Rf, X) _
    refine hg_if_eq (tgt := 27) d_D_mean_6 (by decide) (fun h_1 => absurd h_1 (by decide)) (fun h_1 => ?_)
    refine hg_iload2 d_D_mean_9 ?_
    refine hg_iconst (v := 1) d_D_mean_10 (by decide) ?_
    refine hg_cSi d_D_mean_11 l_D_80 rfl (Nat.le_of_ble_eq_true rfl) (m_D_within (b := 1) (by decide)) rfl ?_
    rintro _ _ ⟨⟨hhc, rfl⟩ | ⟨hhc, rfl⟩, rfl⟩
    · obtain ⟨q, hq, eq⟩ := hhc
      have ihc : hs_ix 2 p = some q := by rw [eq]; exact hs_ix_s (by omega) (by decide)
      subst eq
      show hg_WP l E _ Y_D_mean 0 0 14 [some (.ref (hg_ad E 0 0)), some (.int (nI m)), some (.int (nI q)), none, none] [.int 1] (I, Lg, Rf, X) _
      refine hg_if_eq (tgt := 27) d_D_mean_14 (by decide) (fun h_2 => absurd h_2 (by decide)) (fun h_2 => ?_)
      refine hg_aload0 d_D_mean_17 ?_
      refine hg_getR d_D_mean_18 f_D_69 rfl rfl (hX.lt (n := 1) ⟨by decide, by decide⟩ rfl (by omega)) (hR.D (j := 0) (q := (1, 0)) rfl) ?_
      refine hg_getI d_D_mean_21 f_D_185 rfl rfl (hX.lt (n := 3) ⟨by decide, by decide⟩ rfl (by omega)) ?_
      refine hg_eq1 (y := nI (hs_n σ)) (hC.1) ?_
      refine hg_if_ne (tgt := 31) d_D_mean_24 (by decide) (fun hnz => ?_) (fun hnz => ?_)
      · have hn0 : 0 < hs_n σ := Nat.pos_of_ne_zero (fun z => hnz (by rw [z]; rfl))
        refine hg_aload0 d_D_mean_31 ?_
        refine hg_getR d_D_mean_32 f_D_73 rfl rfl (hX.lt (n := 1) ⟨by decide, by decide⟩ rfl (by omega)) (hR.D (j := 1) (q := (1, 1)) rfl) ?_
        refine hg_aload0 d_D_mean_35 ?_
        refine hg_getR d_D_mean_36 f_D_69 rfl rfl (hX.lt (n := 1) ⟨by decide, by decide⟩ rfl (by omega)) (hR.D (j := 0) (q := (1, 0)) rfl) ?_
        refine hg_cVv d_D_mean_39 l_D_191 rfl rfl (hX.lt (n := 3) ⟨by decide, by decide⟩ rfl (by omega)) rfl (Nat.le_of_ble_eq_true rfl) (m_S_become (s := 1) (s2 := 0) hX hR (by decide) (by decide) (by decide) hC hO) rfl ?_
        rintro _ ⟨I1, rfl, hB1, hfB1⟩
        refine hg_aload0 d_D_mean_42 ?_
        refine hg_getR d_D_mean_43 f_D_73 rfl rfl (hX.lt (n := 1) ⟨by decide, by decide⟩ rfl (by omega)) (hR.D (j := 1) (q := (1, 1)) rfl) ?_
        refine hg_iload1 d_D_mean_46 ?_
        refine hg_cVv d_D_mean_47 l_D_188 rfl rfl (hX.lt (n := 3) ⟨by decide, by decide⟩ rfl (by omega)) rfl (Nat.le_of_ble_eq_true rfl) (m_S_thursdays (s := 1) (n := m) hX hR.tn (by decide) hB1 hO (hW.fr hfB1) (by omega)) rfl ?_
        rintro _ ⟨I2, rfl, hC2, hf2⟩
        refine hg_iconst (v := 0) d_D_mean_50 (by decide) ?_
        refine hg_istore3 d_D_mean_51 rfl ?_
        refine hg_iconst (v := 0) d_D_mean_52 (by decide) ?_
        refine hg_istore4 d_D_mean_53 rfl ?_
        exact m_D_mean_loop hE hw hm (by omega) hn0 hC2 (hf2.tr hfB1).sc hg_rx.u3 _ 0 (Nat.zero_add _)
      · replace hnz := Decidable.not_not.mp hnz
        have hn0 : hs_n σ = 0 := (nI_eq (by omega) (by decide)).mp (show nI (hs_n σ) = nI 0 from hnz)
        refine hg_ldc2 d_D_mean_27 c_D_233 ?_
        refine hg_lreturn d_D_mean_30 rfl ?_
        refine ⟨?_, I, Rf, rfl, hg_sc.rf, hg_rx.rf⟩
        simp [sp_mean, ihb, ihc, hn0]
    · have ihc : hs_ix 2 p = none := hs_ix_n2 hhc
      refine hg_if_eq (tgt := 27) d_D_mean_14 (by decide) (fun h_3 => ?_) (fun h_3 => absurd (by decide) h_3)
      refine hg_ldc2 d_D_mean_27 c_D_233 ?_
      refine hg_lreturn d_D_mean_30 rfl ?_
      refine ⟨?_, I, Rf, rfl, hg_sc.rf, hg_rx.rf⟩
      simp [sp_mean, ihb, ihc]
  · have ihb : hs_ix 61 x = none := hs_ix_n2 hhb
    refine hg_if_eq (tgt := 27) d_D_mean_6 (by decide) (fun h_4 => ?_) (fun h_4 => absurd (by decide) h_4)
    refine hg_ldc2 d_D_mean_27 c_D_233 ?_
    refine hg_lreturn d_D_mean_30 rfl ?_
    refine ⟨?_, I, Rf, rfl, hg_sc.rf, hg_rx.rf⟩
    simp [sp_mean, ihb]

def hs_pk (n : Nat) (x y : Int32) : Prop := ∃ w, w ≤ 3 ∧ x = nI w ∧ (w = 0 ∨ ∃ h, h < n ∧ y = nI h)
theorem sp_go_all {x y : Int32} (hO : hs_ok T σ) (hP : hs_pk (hs_n σ) x y) : hs_ok T (sp_go tw σ x y) ∧ hs_n (sp_go tw σ x y) = hs_n σ ∧ hs_wk (sp_go tw σ x y) ≤ hs_wk σ + 1 := by
  unfold sp_go
  split
  · obtain ⟨h1, h2, h3, h4, h5⟩ := hs_thu_all tw σ
    exact ⟨hO.thu, h1, by rw [h3]; exact Nat.le_refl _⟩
  · split
    · exact ⟨hO.shv (by decide) (by decide) (fun z => absurd z (by decide)), rfl, Nat.le_succ _⟩
    · split
      · exact ⟨hO.shv (by decide) (by decide) (fun _ => Or.inr rfl), rfl, Nat.le_succ _⟩
      · exact ⟨hO.shv (by decide) (by decide) (fun _ => Or.inl rfl), rfl, Nat.le_succ _⟩
theorem m_D_goAsPlanned {x y : Int32} (hX : hg_XS T X) (hR : hg_SR T Rf) (hC : hs_C 1 σ I Rf) (hO : hs_ok T σ) (hW : hc_TW T tw I X) (hwk : hs_wk σ < 2 ^ 31) (hP : hs_pk (hs_n σ) x y) : hg_MC l E (d + 6) Y_D_goAsPlanned 0 0 [.ref (hg_ad E 0 0), .int x, .int y] (I, Lg, Rf, X) (hg_v (fun M' => ∃ I' : Nat → Nat → Nat → Int32, M' = (I', Lg, Rf, X) ∧ hs_C 1 (sp_go tw σ x y) I' Rf ∧ hg_fr 1 I' I)) := by
  refine hg_mc k_D_goAsPlanned (Nat.le_of_ble_eq_true rfl) ?_
  show hg_WP l E _ Y_D_goAsPlanned 0 0 0 [some (.ref (hg_ad E 0 0)), some (.int x), some (.int y), none] [] (I, Lg, Rf, X) _
  obtain ⟨w, hw3, rfl, hw⟩ := hP
  have hn6 := hO.1
  have h4 : w = 0 ∨ w = 1 ∨ w = 2 ∨ w = 3 := by omega
  rcases h4 with rfl | rfl | rfl | rfl
  · show hg_WP l E _ Y_D_goAsPlanned 0 0 0 [some (.ref (hg_ad E 0 0)), some (.int 0), some (.int y), none] [] (I, Lg, Rf, X) _
    refine hg_iload1 d_D_goAsPlanned_0 ?_
    refine hg_if_ne (tgt := 13) d_D_goAsPlanned_1 (by decide) (fun h_1 => absurd h_1 (by decide)) (fun h_1 => ?_)
    refine hg_aload0 d_D_goAsPlanned_4 ?_
    refine hg_getR d_D_goAsPlanned_5 f_D_73 rfl rfl (hX.lt (n := 1) ⟨by decide, by decide⟩ rfl (by omega)) (hR.D (j := 1) (q := (1, 1)) rfl) ?_
    refine hg_cVi d_D_goAsPlanned_8 l_D_199 rfl rfl (hX.lt (n := 3) ⟨by decide, by decide⟩ rfl (by omega)) rfl (Nat.le_of_ble_eq_true rfl) (m_S_thursday (s := 1) hX hR (by decide) hC hO hW hwk) rfl ?_
    rintro _ _ ⟨I2, rfl, rfl, hC2, hf2⟩
    refine hg_pop d_D_goAsPlanned_11 rfl ?_
    refine hg_return d_D_goAsPlanned_12 rfl ?_
    exact ⟨I2, rfl, hC2, hf2⟩
  · obtain ⟨h, hh, rfl⟩ := hw.resolve_left (by decide)
    show hg_WP l E _ Y_D_goAsPlanned 0 0 0 [some (.ref (hg_ad E 0 0)), some (.int 1), some (.int (nI h)), none] [] (I, Lg, Rf, X) _
    refine hg_iload1 d_D_goAsPlanned_0 ?_
    refine hg_if_ne (tgt := 13) d_D_goAsPlanned_1 (by decide) (fun h_2 => ?_) (fun h_2 => absurd (by decide) h_2)
    refine hg_aload0 d_D_goAsPlanned_13 ?_
    refine hg_getR d_D_goAsPlanned_14 f_D_73 rfl rfl (hX.lt (n := 1) ⟨by decide, by decide⟩ rfl (by omega)) (hR.D (j := 1) (q := (1, 1)) rfl) ?_
    refine hg_iload2 d_D_goAsPlanned_17 ?_
    refine hg_cVr d_D_goAsPlanned_18 l_D_88 rfl rfl (hX.lt (n := 3) ⟨by decide, by decide⟩ rfl (by omega)) rfl (Nat.le_of_ble_eq_true rfl) (m_S_at (s := 1) hX hR (by decide) hC.1 hn6) rfl ?_
    rintro _ _ ⟨⟨hna, rfl⟩ | ⟨h2, hh2, e2, rfl⟩, rfl⟩
    · exact absurd ⟨h, hh, rfl⟩ hna
    · obtain rfl : h = h2 := (nI_eq (by omega) (by omega)).mp e2
      show hg_WP l E _ Y_D_goAsPlanned 0 0 21 [some (.ref (hg_ad E 0 0)), some (.int 1), some (.int (nI h)), none] [.ref (hg_ad E 3 (6 * 1 + h))] (I, Lg, Rf, X) _
      refine hg_astore3 d_D_goAsPlanned_21 rfl ?_
      refine hg_aload3 d_D_goAsPlanned_22 ?_
      refine hg_ifnonnull (tgt := 27) d_D_goAsPlanned_23 (by decide) ?_
      refine hg_iload1 d_D_goAsPlanned_27 ?_
      refine hg_iconst (v := 3) d_D_goAsPlanned_28 (by decide) ?_
      refine hg_icmp_ne (tgt := 40) d_D_goAsPlanned_29 (by decide) (fun h_3 => ?_) (fun h_3 => absurd (by decide) h_3)
      refine hg_aload3 d_D_goAsPlanned_40 ?_
      refine hg_iload1 d_D_goAsPlanned_41 ?_
      refine hg_iconst (v := 1) d_D_goAsPlanned_42 (by decide) ?_
      refine hg_icmp_ne (tgt := 50) d_D_goAsPlanned_43 (by decide) (fun h_4 => absurd h_4 (by decide)) (fun h_4 => ?_)
      refine hg_iconst (v := 1) d_D_goAsPlanned_46 (by decide) ?_
      refine hg_goto (tgt := 51) d_D_goAsPlanned_47 (by decide) ?_
      refine hg_putI d_D_goAsPlanned_51 f_D_113 rfl rfl (Or.inl rfl) rfl rfl (hX.lt (n := 18) ⟨by decide, by decide⟩ rfl (by omega)) ?_
      refine hg_return d_D_goAsPlanned_54 rfl ?_
      refine ⟨_, rfl, ?_, hg_fr.rf.u3 (hg_tch3 (by omega))⟩
      have := hC.shv (p := h) (f := 6) (x := 1)
      simp only [sp_go, nI_clamp (show h < 2 ^ 31 by omega)]
      exact this
  · obtain ⟨h, hh, rfl⟩ := hw.resolve_left (by decide)
    show hg_WP l E _ Y_D_goAsPlanned 0 0 0 [some (.ref (hg_ad E 0 0)), some (.int 2), some (.int (nI h)), none] [] (I, Lg, Rf, X) _
    refine hg_iload1 d_D_goAsPlanned_0 ?_
    refine hg_if_ne (tgt := 13) d_D_goAsPlanned_1 (by decide) (fun h_5 => ?_) (fun h_5 => absurd (by decide) h_5)
    refine hg_aload0 d_D_goAsPlanned_13 ?_
    refine hg_getR d_D_goAsPlanned_14 f_D_73 rfl rfl (hX.lt (n := 1) ⟨by decide, by decide⟩ rfl (by omega)) (hR.D (j := 1) (q := (1, 1)) rfl) ?_
    refine hg_iload2 d_D_goAsPlanned_17 ?_
    refine hg_cVr d_D_goAsPlanned_18 l_D_88 rfl rfl (hX.lt (n := 3) ⟨by decide, by decide⟩ rfl (by omega)) rfl (Nat.le_of_ble_eq_true rfl) (m_S_at (s := 1) hX hR (by decide) hC.1 hn6) rfl ?_
    rintro _ _ ⟨⟨hna, rfl⟩ | ⟨h2, hh2, e2, rfl⟩, rfl⟩
    · exact absurd ⟨h, hh, rfl⟩ hna
    · obtain rfl : h = h2 := (nI_eq (by omega) (by omega)).mp e2
      show hg_WP l E _ Y_D_goAsPlanned 0 0 21 [some (.ref (hg_ad E 0 0)), some (.int 2), some (.int (nI h)), none] [.ref (hg_ad E 3 (6 * 1 + h))] (I, Lg, Rf, X) _
      refine hg_astore3 d_D_goAsPlanned_21 rfl ?_
      refine hg_aload3 d_D_goAsPlanned_22 ?_
      refine hg_ifnonnull (tgt := 27) d_D_goAsPlanned_23 (by decide) ?_
      refine hg_iload1 d_D_goAsPlanned_27 ?_
      refine hg_iconst (v := 3) d_D_goAsPlanned_28 (by decide) ?_
      refine hg_icmp_ne (tgt := 40) d_D_goAsPlanned_29 (by decide) (fun h_6 => ?_) (fun h_6 => absurd (by decide) h_6)
      refine hg_aload3 d_D_goAsPlanned_40 ?_
      refine hg_iload1 d_D_goAsPlanned_41 ?_
      refine hg_iconst (v := 1) d_D_goAsPlanned_42 (by decide) ?_
      refine hg_icmp_ne (tgt := 50) d_D_goAsPlanned_43 (by decide) (fun h_7 => ?_) (fun h_7 => absurd (by decide) h_7)
      refine hg_iconst (v := 0) d_D_goAsPlanned_50 (by decide) ?_
      refine hg_putI d_D_goAsPlanned_51 f_D_113 rfl rfl (Or.inl rfl) rfl rfl (hX.lt (n := 18) ⟨by decide, by decide⟩ rfl (by omega)) ?_
      refine hg_return d_D_goAsPlanned_54 rfl ?_
      refine ⟨_, rfl, ?_, hg_fr.rf.u3 (hg_tch3 (by omega))⟩
      have := hC.shv (p := h) (f := 6) (x := 0)
      simp only [sp_go, nI_clamp (show h < 2 ^ 31 by omega)]
      exact this
  · obtain ⟨h, hh, rfl⟩ := hw.resolve_left (by decide)
    show hg_WP l E _ Y_D_goAsPlanned 0 0 0 [some (.ref (hg_ad E 0 0)), some (.int 3), some (.int (nI h)), none] [] (I, Lg, Rf, X) _
    refine hg_iload1 d_D_goAsPlanned_0 ?_
    refine hg_if_ne (tgt := 13) d_D_goAsPlanned_1 (by decide) (fun h_8 => ?_) (fun h_8 => absurd (by decide) h_8)
    refine hg_aload0 d_D_goAsPlanned_13 ?_
    refine hg_getR d_D_goAsPlanned_14 f_D_73 rfl rfl (hX.lt (n := 1) ⟨by decide, by decide⟩ rfl (by omega)) (hR.D (j := 1) (q := (1, 1)) rfl) ?_
    refine hg_iload2 d_D_goAsPlanned_17 ?_
    refine hg_cVr d_D_goAsPlanned_18 l_D_88 rfl rfl (hX.lt (n := 3) ⟨by decide, by decide⟩ rfl (by omega)) rfl (Nat.le_of_ble_eq_true rfl) (m_S_at (s := 1) hX hR (by decide) hC.1 hn6) rfl ?_
    rintro _ _ ⟨⟨hna, rfl⟩ | ⟨h2, hh2, e2, rfl⟩, rfl⟩
    · exact absurd ⟨h, hh, rfl⟩ hna
    · obtain rfl : h = h2 := (nI_eq (by omega) (by omega)).mp e2
      show hg_WP l E _ Y_D_goAsPlanned 0 0 21 [some (.ref (hg_ad E 0 0)), some (.int 3), some (.int (nI h)), none] [.ref (hg_ad E 3 (6 * 1 + h))] (I, Lg, Rf, X) _
      refine hg_astore3 d_D_goAsPlanned_21 rfl ?_
      refine hg_aload3 d_D_goAsPlanned_22 ?_
      refine hg_ifnonnull (tgt := 27) d_D_goAsPlanned_23 (by decide) ?_
      refine hg_iload1 d_D_goAsPlanned_27 ?_
      refine hg_iconst (v := 3) d_D_goAsPlanned_28 (by decide) ?_
      refine hg_icmp_ne (tgt := 40) d_D_goAsPlanned_29 (by decide) (fun h_9 => absurd h_9 (by decide)) (fun h_9 => ?_)
      refine hg_aload3 d_D_goAsPlanned_32 ?_
      refine hg_iconst (v := 0) d_D_goAsPlanned_33 (by decide) ?_
      refine hg_putI d_D_goAsPlanned_34 f_D_104 rfl rfl (Or.inl rfl) rfl rfl (hX.lt (n := 18) ⟨by decide, by decide⟩ rfl (by omega)) ?_
      refine hg_goto (tgt := 54) d_D_goAsPlanned_37 (by decide) ?_
      refine hg_return d_D_goAsPlanned_54 rfl ?_
      refine ⟨_, rfl, ?_, hg_fr.rf.u3 (hg_tch3 (by omega))⟩
      have := hC.shv (p := h) (f := 3) (x := 0)
      simp only [sp_go, nI_clamp (show h < 2 ^ 31 by omega)]
      exact this

theorem sp_pl_all {a : hs_L} (hO : hs_ok T σ) (hL : hs_Lok (hs_n σ) a 1) : ∀ k, k ≤ a.1 → hs_ok T (sp_pl tw σ a k) ∧ hs_n (sp_pl tw σ a k) = hs_n σ ∧ hs_wk (sp_pl tw σ a k) ≤ hs_wk σ + k
  | 0, _ => ⟨hO, rfl, Nat.le_refl _⟩
  | k + 1, hk => by
    obtain ⟨h1, h2, h3⟩ := sp_pl_all hO hL k (by omega)
    obtain ⟨g1, g2, g3⟩ := sp_go_all (tw := tw) h1 (show hs_pk (hs_n (sp_pl tw σ a k)) (a.2.1 k) (a.2.2 k) from by rw [h2]; exact hL k (by omega))
    exact ⟨g1, g2.trans h2, by show hs_wk (sp_go tw _ _ _) ≤ _; omega⟩
theorem m_D_ends_loop {q : Nat} (hq : q < 2) {a : hs_L} (hE : hq_E T tw σ I Rf X) (hw : hs_wk σ ≤ 9999) (hA : hs_LR 2 a I) (ha : a.1 ≤ 10) (hL : hs_Lok (hs_n σ) a 1) : ∀ (k i : Nat) (I1 : Nat → Nat → Nat → Int32) (Rf1 : Nat → Nat → Nat → Option (Nat × Nat)), i + k = a.1 → hs_C 1 (sp_pl tw σ a i) I1 Rf1 → hg_sc I1 I → hg_rx Rf1 Rf → hg_WP l E (d + 7) Y_D_ends 0 0 23 [some (.ref (hg_ad E 0 0)), some (.int (nI q)), some (.int (nI i))] [] (I1, Lg, Rf1, X) (hg_i (fun v M' => hq_A v (sp_ends tw σ a (nI q)) I Lg Rf X M')) := by
  intro k
  induction k with
  | zero =>
    intro i I1 Rf1 hik hC2 hs hr
    obtain ⟨hX, hR, hC1, hO, hW⟩ := hE.sc hs hr
    have hA1 := hA.sc hs
    obtain rfl : i = a.1 := by omega
    have hn6 := hO.1
    refine hg_iload2 d_D_ends_23 ?_
    refine hg_aload0 d_D_ends_24 ?_
    refine hg_getR d_D_ends_25 f_D_23 rfl rfl (hX.lt (n := 1) ⟨by decide, by decide⟩ rfl (by omega)) (hR.D (j := 5) (q := (7, 2)) rfl) ?_
    refine hg_getI d_D_ends_28 f_D_221 rfl rfl (hX.lt (n := 6) ⟨by decide, by decide⟩ rfl (by omega)) ?_
    refine hg_eq1 (y := nI a.1) (hA1.1) ?_
    refine hg_icmp_ge (tgt := 62) d_D_ends_31 (by decide) (fun h_1 => ?_) (fun h_1 => absurd (Int32.le_refl _) h_1)
    refine hg_iload1 d_D_ends_62 ?_
    refine hg_if_ne (tgt := 76) d_D_ends_63 (by decide) (fun hq0 => ?_) (fun hq0 => ?_)
    · refine hg_aload0 d_D_ends_76 ?_
      refine hg_getR d_D_ends_77 f_D_73 rfl rfl (hX.lt (n := 1) ⟨by decide, by decide⟩ rfl (by omega)) (hR.D (j := 1) (q := (1, 1)) rfl) ?_
      refine hg_getI d_D_ends_80 f_D_167 rfl rfl (hX.lt (n := 3) ⟨by decide, by decide⟩ rfl (by omega)) ?_
      refine hg_eq1 (y := nI (hs_hu (sp_pl tw σ a a.1))) (hC2.2.2.1) ?_
      refine hg_ireturn d_D_ends_83 rfl rfl ?_
      refine ⟨?_, I1, Rf1, rfl, hs, hr⟩
      have h2 : q = 0 ∨ q = 1 := by omega
      rcases h2 with rfl | rfl
      · first | exact absurd rfl hq0 | (unfold sp_ends; rw [hs_ix_s hq (by decide)]; exact (if_pos rfl).symm)
      · first | exact absurd hq0 (by decide) | (unfold sp_ends; rw [hs_ix_s hq (by decide)]; exact (if_neg (by decide)).symm)
    · replace hq0 := Decidable.not_not.mp hq0
      refine hg_aload0 d_D_ends_66 ?_
      refine hg_getR d_D_ends_67 f_D_73 rfl rfl (hX.lt (n := 1) ⟨by decide, by decide⟩ rfl (by omega)) (hR.D (j := 1) (q := (1, 1)) rfl) ?_
      refine hg_getI d_D_ends_70 f_D_170 rfl rfl (hX.lt (n := 3) ⟨by decide, by decide⟩ rfl (by omega)) ?_
      refine hg_eq1 (y := nI (hs_cl (sp_pl tw σ a a.1))) (hC2.2.2.2.1) ?_
      refine hg_goto (tgt := 83) d_D_ends_73 (by decide) ?_
      refine hg_ireturn d_D_ends_83 rfl rfl ?_
      refine ⟨?_, I1, Rf1, rfl, hs, hr⟩
      have h2 : q = 0 ∨ q = 1 := by omega
      rcases h2 with rfl | rfl
      · first | exact absurd rfl hq0 | (unfold sp_ends; rw [hs_ix_s hq (by decide)]; exact (if_pos rfl).symm)
      · first | exact absurd hq0 (by decide) | (unfold sp_ends; rw [hs_ix_s hq (by decide)]; exact (if_neg (by decide)).symm)
  | succ k ih =>
    intro i I1 Rf1 hik hC2 hs hr
    obtain ⟨hX, hR, hC1, hO, hW⟩ := hE.sc hs hr
    have hA1 := hA.sc hs
    have hn6 := hO.1
    obtain ⟨hO2, hn2, hw2⟩ := sp_pl_all (tw := tw) hO hL i (by omega)
    refine hg_iload2 d_D_ends_23 ?_
    refine hg_aload0 d_D_ends_24 ?_
    refine hg_getR d_D_ends_25 f_D_23 rfl rfl (hX.lt (n := 1) ⟨by decide, by decide⟩ rfl (by omega)) (hR.D (j := 5) (q := (7, 2)) rfl) ?_
    refine hg_getI d_D_ends_28 f_D_221 rfl rfl (hX.lt (n := 6) ⟨by decide, by decide⟩ rfl (by omega)) ?_
    refine hg_eq1 (y := nI a.1) (hA1.1) ?_
    refine hg_icmp_ge (tgt := 62) d_D_ends_31 (by decide) (fun h_2 => absurd h_2 (nI_ge (by omega) (by omega))) (fun h_2 => ?_)
    refine hg_aload0 d_D_ends_34 ?_
    refine hg_aload0 d_D_ends_35 ?_
    refine hg_getR d_D_ends_36 f_D_23 rfl rfl (hX.lt (n := 1) ⟨by decide, by decide⟩ rfl (by omega)) (hR.D (j := 5) (q := (7, 2)) rfl) ?_
    refine hg_getR d_D_ends_39 f_D_222 rfl rfl (hX.lt (n := 6) ⟨by decide, by decide⟩ rfl (by omega)) (hR.w0 (by omega)) ?_
    refine hg_iload2 d_D_ends_42 ?_
    refine hg_iald_n (j := i) d_D_ends_43 rfl rfl (hX.lt (n := 6) ⟨by decide, by decide⟩ rfl (by omega)) (hX.jn (n := 10) (by decide) rfl (by omega)) ?_
    refine hg_eq1 (y := a.2.1 i) (hA1.2.1 i (by omega)) ?_
    refine hg_aload0 d_D_ends_44 ?_
    refine hg_getR d_D_ends_45 f_D_23 rfl rfl (hX.lt (n := 1) ⟨by decide, by decide⟩ rfl (by omega)) (hR.D (j := 5) (q := (7, 2)) rfl) ?_
    refine hg_getR d_D_ends_48 f_D_230 rfl rfl (hX.lt (n := 6) ⟨by decide, by decide⟩ rfl (by omega)) (hR.w1 (by omega)) ?_
    refine hg_iload2 d_D_ends_51 ?_
    refine hg_iald_n (j := i) d_D_ends_52 rfl rfl (hX.lt (n := 6) ⟨by decide, by decide⟩ rfl (by omega)) (hX.jn (n := 10) (by decide) rfl (by omega)) ?_
    refine hg_eq1 (y := a.2.2 i) (hA1.2.2 i (by omega)) ?_
    refine hg_cVv d_D_ends_53 l_D_242 rfl rfl (hX.lt (n := 1) ⟨by decide, by decide⟩ rfl (by omega)) rfl (Nat.le_of_ble_eq_true rfl) (m_D_goAsPlanned (x := a.2.1 i) (y := a.2.2 i) hX hR hC2 hO2 hW (by omega) (by rw [hn2]; exact hL i (by omega))) rfl ?_
    rintro _ ⟨I2, rfl, hC3, hf3⟩
    refine hg_iinc2 (v := nI (i + 1)) d_D_ends_56 rfl (nI_add _ _) ?_
    refine hg_goto (tgt := 23) d_D_ends_59 (by decide) ?_
    exact ih (i + 1) I2 Rf1 (by omega) hC3 (hf3.sc.tr hs) hr
theorem m_D_ends {x : Int32} {a : hs_L} (hE : hq_E T tw σ I Rf X) (hw : hs_wk σ ≤ 9999) (hA : hs_LR 2 a I) (ha : a.1 ≤ 10) (hL : hs_Lok (hs_n σ) a 1) : hg_MC l E (d + 8) Y_D_ends 0 0 [.ref (hg_ad E 0 0), .int x] (I, Lg, Rf, X) (hg_i (fun v M' => hq_A v (sp_ends tw σ a x) I Lg Rf X M')) := by
  obtain ⟨hX, hR, hC, hO, hW⟩ := id hE
  have hn6 := hO.1
  refine hg_mc k_D_ends (Nat.le_of_ble_eq_true rfl) ?_
  show hg_WP l E _ Y_D_ends 0 0 0 [some (.ref (hg_ad E 0 0)), some (.int x), none] [] (I, Lg, Rf, X) _
  refine hg_iload1 d_D_ends_0 ?_
  refine hg_iconst (v := 1) d_D_ends_1 (by decide) ?_
  refine hg_cSi d_D_ends_2 l_D_80 rfl (Nat.le_of_ble_eq_true rfl) (m_D_within (b := 1) (by decide)) rfl ?_
  rintro _ _ ⟨⟨hhb, rfl⟩ | ⟨hhb, rfl⟩, rfl⟩
  · obtain ⟨q, hq, eq⟩ := hhb
    have ihb : hs_ix 2 x = some q := by rw [eq]; exact hs_ix_s (by omega) (by decide)
    subst eq
    show hg_WP l E _ Y_D_ends 0 0 5 [some (.ref (hg_ad E 0 0)), some (.int (nI q)), none] [.int 1] (I, Lg, Rf, X) _
    refine hg_if_ne (tgt := 10) d_D_ends_5 (by decide) (fun h_1 => ?_) (fun h_1 => absurd (by decide) h_1)
    refine hg_aload0 d_D_ends_10 ?_
    refine hg_getR d_D_ends_11 f_D_73 rfl rfl (hX.lt (n := 1) ⟨by decide, by decide⟩ rfl (by omega)) (hR.D (j := 1) (q := (1, 1)) rfl) ?_
    refine hg_aload0 d_D_ends_14 ?_
    refine hg_getR d_D_ends_15 f_D_69 rfl rfl (hX.lt (n := 1) ⟨by decide, by decide⟩ rfl (by omega)) (hR.D (j := 0) (q := (1, 0)) rfl) ?_
    refine hg_cVv d_D_ends_18 l_D_191 rfl rfl (hX.lt (n := 3) ⟨by decide, by decide⟩ rfl (by omega)) rfl (Nat.le_of_ble_eq_true rfl) (m_S_become (s := 1) (s2 := 0) hX hR (by decide) (by decide) (by decide) hC hO) rfl ?_
    rintro _ ⟨I1, rfl, hB1, hfB1⟩
    refine hg_iconst (v := 0) d_D_ends_21 (by decide) ?_
    refine hg_istore2 d_D_ends_22 rfl ?_
    exact m_D_ends_loop (by omega) hE hw hA ha hL _ 0 I1 _ (Nat.zero_add _) hB1 hfB1.sc hg_rx.u3
  · have ihb : hs_ix 2 x = none := hs_ix_n2 hhb
    refine hg_if_ne (tgt := 10) d_D_ends_5 (by decide) (fun h_2 => absurd h_2 (by decide)) (fun h_2 => ?_)
    refine hg_iconst (v := (-1)) d_D_ends_8 (by decide) ?_
    refine hg_ireturn d_D_ends_9 rfl rfl ?_
    refine ⟨?_, I, Rf, rfl, hg_sc.rf, hg_rx.rf⟩
    simp [sp_ends, ihb]

def hs_lm (L : Nat) : Int32 := if L = 0 then -1 else nI (L - 1)
theorem hs_lm_max {L m : Nat} (hL : L ≤ 13) (hm : m ≤ 12) : (if hs_lm L < nI m then nI m else hs_lm L) = hs_lm (max L (m + 1)) := by
  unfold hs_lm
  rcases Nat.eq_zero_or_pos L with z | z
  · subst z; rw [if_pos rfl, if_pos (Int32.lt_iff_toInt_lt.mpr (by rw [nI_toInt (by omega)]; show (-1 : Int) < _; omega)), if_neg (show ¬ max 0 (m + 1) = 0 by omega)]; congr 1 <;> omega
  · rw [if_neg (show ¬ L = 0 by omega), if_neg (show ¬ max L (m + 1) = 0 by omega)]
    split
    · rename_i h; rw [nI_ltI (by omega) (by omega)] at h; congr 1 <;> omega
    · rename_i h; rw [nI_ltI (by omega) (by omega)] at h; congr 1 <;> omega
theorem hs_lm_lt {L n : Nat} (hL : L ≤ 13) (hn : n ≤ 13) : hs_lm L < nI n ↔ L ≤ n := by
  unfold hs_lm
  rcases Nat.eq_zero_or_pos L with z | z
  · subst z; rw [if_pos rfl]
    constructor
    · intro _; omega
    · intro _; exact Int32.lt_iff_toInt_lt.mpr (by rw [nI_toInt (by omega)]; show (-1 : Int) < _; omega)
  · rw [if_neg (show ¬ L = 0 by omega), nI_ltI (by omega) (by omega)]; omega
theorem hs_LR.fr1 {r s : Nat} {a : hs_L} (h : hs_LR r a I) (e : hg_fr s I1 I) : hs_LR r a I1 := by
  unfold hs_LR at h ⊢
  rw [e 7 r (by unfold hg_tch; omega), e 8 r (by unfold hg_tch; omega), e 9 r (by unfold hg_tch; omega)]
  exact h
theorem m_D_allSeen_in {a : hs_L} (hX : hg_XS T X) (hR : hg_SR T Rf) (hC : hs_C 1 σ I Rf) (hO : hs_ok T σ) (hW : hc_TW T tw I X) (hwk : hs_wk σ ≤ 9999) (hA : hs_LR 0 a I) (ha : a.1 ≤ 5) (hL : ∀ i, i < a.1 → ∃ m, m ≤ 12 ∧ a.2.1 i = nI m) {L n : Nat} (hn : n ≤ 12) (hf : hg_fr 1 I1 I) (K : (∀ i m, i < a.1 → m ≤ 12 → m = n → a.2.1 i = nI m → (hs_hov (hs_ho tw (hs_th tw σ n))) = a.2.2 i) → hg_WP l E (d + 5) Y_D_allSeenGoesSo 0 0 37 [some (.ref (hg_ad E 0 0)), some (.int (hs_lm L)), some (.int (nI (n + 1))), some (.int (hs_hov (hs_ho tw (hs_th tw σ n)))), some (.int (nI a.1))] [] (I1, Lg, Rf, X) (hg_i (fun v M' => ∃ I' : Nat → Nat → Nat → Int32, v = (if sp_seen tw σ a = true then 1 else 0) ∧ M' = (I', Lg, Rf, X) ∧ hg_fr 1 I' I))) : ∀ (k i : Nat), i + k = a.1 → (∀ j m, j < i → m ≤ 12 → m = n → a.2.1 j = nI m → (hs_hov (hs_ho tw (hs_th tw σ n))) = a.2.2 j) → hg_WP l E (d + 5) Y_D_allSeenGoesSo 0 0 53 [some (.ref (hg_ad E 0 0)), some (.int (hs_lm L)), some (.int (nI n)), some (.int (hs_hov (hs_ho tw (hs_th tw σ n)))), some (.int (nI i))] [] (I1, Lg, Rf, X) (hg_i (fun v M' => ∃ I' : Nat → Nat → Nat → Int32, v = (if sp_seen tw σ a = true then 1 else 0) ∧ M' = (I', Lg, Rf, X) ∧ hg_fr 1 I' I)) := by
  have hA1 := hA.fr1 hf
  intro k
  induction k with
  | zero =>
    intro i hik hall
    obtain rfl : i = a.1 := by omega
    refine hg_iload4 d_D_allSeenGoesSo_53 ?_
    refine hg_aload0 d_D_allSeenGoesSo_55 ?_
    refine hg_getR d_D_allSeenGoesSo_56 f_D_16 rfl rfl (hX.lt (n := 1) ⟨by decide, by decide⟩ rfl (by omega)) (hR.D (j := 3) (q := (7, 0)) rfl) ?_
    refine hg_getI d_D_allSeenGoesSo_59 f_D_221 rfl rfl (hX.lt (n := 6) ⟨by decide, by decide⟩ rfl (by omega)) ?_
    refine hg_eq1 (y := nI a.1) (hA1.1) ?_
    refine hg_icmp_ge (tgt := 101) d_D_allSeenGoesSo_62 (by decide) (fun h_1 => ?_) (fun h_1 => absurd (Int32.le_refl _) h_1)
    refine hg_iinc2 (v := nI (n + 1)) d_D_allSeenGoesSo_101 rfl (nI_add _ _) ?_
    refine hg_goto (tgt := 37) d_D_allSeenGoesSo_104 (by decide) ?_
    exact K (fun i m hi => hall i m hi)
  | succ k ih =>
    intro i hik hall
    obtain ⟨m, hm, em⟩ := hL i (by omega)
    refine hg_iload4 d_D_allSeenGoesSo_53 ?_
    refine hg_aload0 d_D_allSeenGoesSo_55 ?_
    refine hg_getR d_D_allSeenGoesSo_56 f_D_16 rfl rfl (hX.lt (n := 1) ⟨by decide, by decide⟩ rfl (by omega)) (hR.D (j := 3) (q := (7, 0)) rfl) ?_
    refine hg_getI d_D_allSeenGoesSo_59 f_D_221 rfl rfl (hX.lt (n := 6) ⟨by decide, by decide⟩ rfl (by omega)) ?_
    refine hg_eq1 (y := nI a.1) (hA1.1) ?_
    refine hg_icmp_ge (tgt := 101) d_D_allSeenGoesSo_62 (by decide) (fun h_2 => absurd h_2 (nI_ge (by omega) (by omega))) (fun h_2 => ?_)
    refine hg_aload0 d_D_allSeenGoesSo_65 ?_
    refine hg_getR d_D_allSeenGoesSo_66 f_D_16 rfl rfl (hX.lt (n := 1) ⟨by decide, by decide⟩ rfl (by omega)) (hR.D (j := 3) (q := (7, 0)) rfl) ?_
    refine hg_getR d_D_allSeenGoesSo_69 f_D_222 rfl rfl (hX.lt (n := 6) ⟨by decide, by decide⟩ rfl (by omega)) (hR.w0 (by omega)) ?_
    refine hg_iload4 d_D_allSeenGoesSo_72 ?_
    refine hg_iald_n (j := i) d_D_allSeenGoesSo_74 rfl rfl (hX.lt (n := 6) ⟨by decide, by decide⟩ rfl (by omega)) (hX.jn (n := 5) (by decide) rfl (by omega)) ?_
    refine hg_eq1 (y := nI m) ((hA1.2.1 i (by omega)).trans em) ?_
    refine hg_iload2 d_D_allSeenGoesSo_75 ?_
    refine hg_icmp_ne (tgt := 95) d_D_allSeenGoesSo_76 (by decide) (fun hmn => ?_) (fun hmn => ?_)
    · refine hg_iinc4 (v := nI (i + 1)) d_D_allSeenGoesSo_95 rfl (nI_add _ _) ?_
      refine hg_goto (tgt := 53) d_D_allSeenGoesSo_98 (by decide) ?_
      refine ih (i + 1) (by omega) (fun j m2 hj hm2 e e2 => ?_)
      by_cases hji : j = i
      · subst hji; subst e; first | exact hov.symm | exact absurd ((em.symm.trans e2)) hmn
      · exact hall j m2 (by omega) hm2 e e2
    · replace hmn := Decidable.not_not.mp hmn
      refine hg_aload0 d_D_allSeenGoesSo_79 ?_
      refine hg_getR d_D_allSeenGoesSo_80 f_D_16 rfl rfl (hX.lt (n := 1) ⟨by decide, by decide⟩ rfl (by omega)) (hR.D (j := 3) (q := (7, 0)) rfl) ?_
      refine hg_getR d_D_allSeenGoesSo_83 f_D_230 rfl rfl (hX.lt (n := 6) ⟨by decide, by decide⟩ rfl (by omega)) (hR.w1 (by omega)) ?_
      refine hg_iload4 d_D_allSeenGoesSo_86 ?_
      refine hg_iald_n (j := i) d_D_allSeenGoesSo_88 rfl rfl (hX.lt (n := 6) ⟨by decide, by decide⟩ rfl (by omega)) (hX.jn (n := 5) (by decide) rfl (by omega)) ?_
      refine hg_eq1 (y := a.2.2 i) (hA1.2.2 i (by omega)) ?_
      refine hg_iload3 d_D_allSeenGoesSo_89 ?_
      refine hg_icmp_eq (tgt := 95) d_D_allSeenGoesSo_90 (by decide) (fun hov => ?_) (fun hov => ?_)
      · refine hg_iinc4 (v := nI (i + 1)) d_D_allSeenGoesSo_95 rfl (nI_add _ _) ?_
        refine hg_goto (tgt := 53) d_D_allSeenGoesSo_98 (by decide) ?_
        refine ih (i + 1) (by omega) (fun j m2 hj hm2 e e2 => ?_)
        by_cases hji : j = i
        · subst hji; subst e; first | exact hov.symm | exact absurd ((em.symm.trans e2)) hmn
        · exact hall j m2 (by omega) hm2 e e2
      · refine hg_iconst (v := 0) d_D_allSeenGoesSo_93 (by decide) ?_
        refine hg_ireturn d_D_allSeenGoesSo_94 rfl (by decide) ?_
        refine ⟨I1, ?_, rfl, hf⟩
        rw [if_neg (fun z => hov ((hs_B_t.mp z i (by omega) n hn (em.trans hmn)).symm))]
theorem m_D_allSeen_out {a : hs_L} (hX : hg_XS T X) (hR : hg_SR T Rf) (hC : hs_C 1 σ I Rf) (hO : hs_ok T σ) (hW : hc_TW T tw I X) (hwk : hs_wk σ ≤ 9999) (hA : hs_LR 0 a I) (ha : a.1 ≤ 5) (hL : ∀ i, i < a.1 → ∃ m, m ≤ 12 ∧ a.2.1 i = nI m) {L : Nat} (hL13 : L ≤ 13) (hLs : ∀ i m, i < a.1 → a.2.1 i = nI m → m ≤ 12 → m < L) : ∀ (k n : Nat) (a3 a4 : Option Value) (I1 : Nat → Nat → Nat → Int32), n + k = L → hs_C 1 (hs_th tw σ n) I1 Rf → hg_fr 1 I1 I → (∀ i m, i < a.1 → m ≤ 12 → m < n → a.2.1 i = nI m → hs_hov (hs_ho tw (hs_th tw σ m)) = a.2.2 i) → hg_WP l E (d + 5) Y_D_allSeenGoesSo 0 0 37 [some (.ref (hg_ad E 0 0)), some (.int (hs_lm L)), some (.int (nI n)), a3, a4] [] (I1, Lg, Rf, X) (hg_i (fun v M' => ∃ I' : Nat → Nat → Nat → Int32, v = (if sp_seen tw σ a = true then 1 else 0) ∧ M' = (I', Lg, Rf, X) ∧ hg_fr 1 I' I)) := by
  intro k
  induction k with
  | zero =>
    intro n a3 a4 I1 hnk hC1 hf hall
    obtain rfl : n = L := by omega
    refine hg_iload2 d_D_allSeenGoesSo_37 ?_
    refine hg_iload1 d_D_allSeenGoesSo_38 ?_
    refine hg_icmp_gt (tgt := 107) d_D_allSeenGoesSo_39 (by decide) (fun h_1 => ?_) (fun h_1 => absurd ((hs_lm_lt hL13 hL13).mpr (Nat.le_refl _)) h_1)
    refine hg_iconst (v := 1) d_D_allSeenGoesSo_107 (by decide) ?_
    refine hg_ireturn d_D_allSeenGoesSo_108 rfl (by decide) ?_
    refine ⟨I1, ?_, rfl, hf⟩
    exact (if_pos (show sp_seen tw σ a = true from hs_B_t.mpr (fun i hi m hm e => hall i m hi hm (hLs i m hi e hm) e))).symm
  | succ k ih =>
    intro n a3 a4 I1 hnk hC1 hf hall
    obtain ⟨hOi, hwi, hni, -⟩ := hs_th_all (tw := tw) hO n
    refine hg_iload2 d_D_allSeenGoesSo_37 ?_
    refine hg_iload1 d_D_allSeenGoesSo_38 ?_
    refine hg_icmp_gt (tgt := 107) d_D_allSeenGoesSo_39 (by decide) (fun h_2 => absurd h_2 (fun z => by rw [hs_lm_lt hL13 (by omega)] at z; omega)) (fun h_2 => ?_)
    refine hg_aload0 d_D_allSeenGoesSo_42 ?_
    refine hg_getR d_D_allSeenGoesSo_43 f_D_73 rfl rfl (hX.lt (n := 1) ⟨by decide, by decide⟩ rfl (by omega)) (hR.D (j := 1) (q := (1, 1)) rfl) ?_
    refine hg_cVi d_D_allSeenGoesSo_46 l_D_199 rfl rfl (hX.lt (n := 3) ⟨by decide, by decide⟩ rfl (by omega)) rfl (Nat.le_of_ble_eq_true rfl) (m_S_thursday (s := 1) hX hR (by decide) hC1 hOi (hW.fr hf) (by omega)) rfl ?_
    rintro _ _ ⟨I2, rfl, rfl, hC2, hf2⟩
    refine hg_istore3 d_D_allSeenGoesSo_49 rfl ?_
    refine hg_iconst (v := 0) d_D_allSeenGoesSo_50 (by decide) ?_
    refine hg_istore4 d_D_allSeenGoesSo_51 rfl ?_
    refine m_D_allSeen_in (I1 := I2) (L := L) (n := n) hX hR hC hO hW hwk hA ha hL (by omega) (hf2.tr hf) (fun hcur => ih (n + 1) _ _ I2 (by omega) hC2 (hf2.tr hf) (fun i m hi hm hmn e => ?_)) a.1 0 (Nat.zero_add _) (fun j m hj => absurd hj (Nat.not_lt_zero _))
    by_cases hz : m = n
    · subst hz; exact hcur i m hi hm rfl e
    · exact hall i m hi hm (by omega) e
theorem m_D_allSeen_first {a : hs_L} (hX : hg_XS T X) (hR : hg_SR T Rf) (hC : hs_C 1 σ I Rf) (hO : hs_ok T σ) (hW : hc_TW T tw I X) (hwk : hs_wk σ ≤ 9999) (hA : hs_LR 0 a I) (ha : a.1 ≤ 5) (hL : ∀ i, i < a.1 → ∃ m, m ≤ 12 ∧ a.2.1 i = nI m) : ∀ (k i L : Nat) (a3 a4 : Option Value), i + k = a.1 → L ≤ 13 → (∀ j m, j < i → a.2.1 j = nI m → m ≤ 12 → m < L) → hg_WP l E (d + 5) Y_D_allSeenGoesSo 0 0 4 [some (.ref (hg_ad E 0 0)), some (.int (hs_lm L)), some (.int (nI i)), a3, a4] [] (I, Lg, Rf, X) (hg_i (fun v M' => ∃ I' : Nat → Nat → Nat → Int32, v = (if sp_seen tw σ a = true then 1 else 0) ∧ M' = (I', Lg, Rf, X) ∧ hg_fr 1 I' I)) := by
  intro k
  induction k with
  | zero =>
    intro i L a3 a4 hik hL13 hall
    obtain rfl : i = a.1 := by omega
    refine hg_iload2 d_D_allSeenGoesSo_4 ?_
    refine hg_aload0 d_D_allSeenGoesSo_5 ?_
    refine hg_getR d_D_allSeenGoesSo_6 f_D_16 rfl rfl (hX.lt (n := 1) ⟨by decide, by decide⟩ rfl (by omega)) (hR.D (j := 3) (q := (7, 0)) rfl) ?_
    refine hg_getI d_D_allSeenGoesSo_9 f_D_221 rfl rfl (hX.lt (n := 6) ⟨by decide, by decide⟩ rfl (by omega)) ?_
    refine hg_eq1 (y := nI a.1) (hA.1) ?_
    refine hg_icmp_ge (tgt := 35) d_D_allSeenGoesSo_12 (by decide) (fun h_1 => ?_) (fun h_1 => absurd (Int32.le_refl _) h_1)
    refine hg_iconst (v := 0) d_D_allSeenGoesSo_35 (by decide) ?_
    refine hg_istore2 d_D_allSeenGoesSo_36 rfl ?_
    exact m_D_allSeen_out hX hR hC hO hW hwk hA ha hL hL13 (fun i m hi => hall i m hi) L 0 a3 a4 I (Nat.zero_add _) hC hg_fr.rf (fun i m hi hm h0 => absurd h0 (Nat.not_lt_zero _))
  | succ k ih =>
    intro i L a3 a4 hik hL13 hall
    obtain ⟨m, hm, em⟩ := hL i (by omega)
    refine hg_iload2 d_D_allSeenGoesSo_4 ?_
    refine hg_aload0 d_D_allSeenGoesSo_5 ?_
    refine hg_getR d_D_allSeenGoesSo_6 f_D_16 rfl rfl (hX.lt (n := 1) ⟨by decide, by decide⟩ rfl (by omega)) (hR.D (j := 3) (q := (7, 0)) rfl) ?_
    refine hg_getI d_D_allSeenGoesSo_9 f_D_221 rfl rfl (hX.lt (n := 6) ⟨by decide, by decide⟩ rfl (by omega)) ?_
    refine hg_eq1 (y := nI a.1) (hA.1) ?_
    refine hg_icmp_ge (tgt := 35) d_D_allSeenGoesSo_12 (by decide) (fun h_2 => absurd h_2 (nI_ge (by omega) (by omega))) (fun h_2 => ?_)
    refine hg_iload1 d_D_allSeenGoesSo_15 ?_
    refine hg_aload0 d_D_allSeenGoesSo_16 ?_
    refine hg_getR d_D_allSeenGoesSo_17 f_D_16 rfl rfl (hX.lt (n := 1) ⟨by decide, by decide⟩ rfl (by omega)) (hR.D (j := 3) (q := (7, 0)) rfl) ?_
    refine hg_getR d_D_allSeenGoesSo_20 f_D_222 rfl rfl (hX.lt (n := 6) ⟨by decide, by decide⟩ rfl (by omega)) (hR.w0 (by omega)) ?_
    refine hg_iload2 d_D_allSeenGoesSo_23 ?_
    refine hg_iald_n (j := i) d_D_allSeenGoesSo_24 rfl rfl (hX.lt (n := 6) ⟨by decide, by decide⟩ rfl (by omega)) (hX.jn (n := 5) (by decide) rfl (by omega)) ?_
    refine hg_eq1 (y := nI m) ((hA.2.1 i (by omega)).trans em) ?_
    refine hg_max d_D_allSeenGoesSo_25 l_D_225 (Nat.le_of_ble_eq_true rfl) ?_
    refine hg_eq1 (y := hs_lm (max L (m + 1))) (hs_lm_max hL13 hm) ?_
    refine hg_istore1 d_D_allSeenGoesSo_28 rfl ?_
    refine hg_iinc2 (v := nI (i + 1)) d_D_allSeenGoesSo_29 rfl (nI_add _ _) ?_
    refine hg_goto (tgt := 4) d_D_allSeenGoesSo_32 (by decide) ?_
    refine ih (i + 1) (max L (m + 1)) a3 a4 (by omega) (by omega) (fun j m2 hj e h12 => ?_)
    by_cases hji : j = i
    · subst hji; have := (nI_eq (show m2 < 2 ^ 31 by omega) (show m < 2 ^ 31 by omega)).mp (e.symm.trans em); omega
    · have := hall j m2 (by omega) e h12; omega
theorem m_D_allSeenGoesSo {a : hs_L} (hX : hg_XS T X) (hR : hg_SR T Rf) (hC : hs_C 1 σ I Rf) (hO : hs_ok T σ) (hW : hc_TW T tw I X) (hwk : hs_wk σ ≤ 9999) (hA : hs_LR 0 a I) (ha : a.1 ≤ 5) (hL : ∀ i, i < a.1 → ∃ m, m ≤ 12 ∧ a.2.1 i = nI m) : hg_MC l E (d + 6) Y_D_allSeenGoesSo 0 0 [.ref (hg_ad E 0 0)] (I, Lg, Rf, X) (hg_i (fun v M' => ∃ I' : Nat → Nat → Nat → Int32, v = (if sp_seen tw σ a = true then 1 else 0) ∧ M' = (I', Lg, Rf, X) ∧ hg_fr 1 I' I)) := by
  refine hg_mc k_D_allSeenGoesSo (Nat.le_of_ble_eq_true rfl) ?_
  show hg_WP l E _ Y_D_allSeenGoesSo 0 0 0 [some (.ref (hg_ad E 0 0)), none, none, none, none] [] (I, Lg, Rf, X) _
  refine hg_iconst (v := (-1)) d_D_allSeenGoesSo_0 (by decide) ?_
  refine hg_istore1 d_D_allSeenGoesSo_1 rfl ?_
  refine hg_iconst (v := 0) d_D_allSeenGoesSo_2 (by decide) ?_
  refine hg_istore2 d_D_allSeenGoesSo_3 rfl ?_
  exact m_D_allSeen_first hX hR hC hO hW hwk hA ha hL a.1 0 0 none none (Nat.zero_add _) (by decide) (fun j m hj => absurd hj (Nat.not_lt_zero _))

theorem m_D_can_loop {N : Nat} {h q b : Nat} {a : hs_L} (hE : hq_E T tw σ I Rf X) (hw : hs_wk σ ≤ 9999) (hh : h < hs_n σ) (hq : q < 2) (hb : b < 2) (hA : hs_LR 0 a I) (ha : a.1 ≤ 5) (hL : ∀ i, i < a.1 → ∃ m, m ≤ 12 ∧ a.2.1 i = nI m) (hN : N = if q = 0 then 100 else 10) : ∀ (r k : Nat) (I1 : Nat → Nat → Nat → Int32) (Rf1 : Nat → Nat → Nat → Option (Nat × Nat)), k + r = N → hg_sc I1 I → hg_rx Rf1 Rf → hg_WP l E (d + 7) Y_D_can 0 0 52 [some (.ref (hg_ad E 0 0)), some (.int (nI h)), some (.int (nI q)), some (.int (nI b)), some (.int (nI (hs_cnt (fun k => sp_seen tw (hs_shv σ h (2 - q) (nI k)) a) k))), some (.int (hs_fst (fun k => sp_seen tw (hs_shv σ h (2 - q) (nI k)) a) k)), some (.int (nI (N - 1))), some (.int (nI k))] [] (I1, Lg, Rf1, X) (hg_i (fun v M' => hq_A v (sp_can tw σ a (nI h) (nI q) (nI b)) I Lg Rf X M')) := by
  have hN1 : 0 < N ∧ N ≤ 100 := by rw [hN]; split <;> omega
  intro r
  induction r with
  | zero =>
    intro k I1 Rf1 hkr hs hr
    obtain ⟨hX, hR, hC1, hO, hW⟩ := hE.sc hs hr
    obtain rfl : k = N := by omega
    have hn6 := hO.1
    refine hg_iload7 d_D_can_52 ?_
    refine hg_iload6 d_D_can_54 ?_
    refine hg_icmp_gt (tgt := 133) d_D_can_56 (by decide) (fun h_1 => ?_) (fun h_1 => absurd ((nI_ltI (by omega) (by omega)).mpr (by omega)) h_1)
    refine hg_iload3 d_D_can_133 ?_
    refine hg_if_ne (tgt := 142) d_D_can_134 (by decide) (fun hb0 => ?_) (fun hb0 => ?_)
    · refine hg_iload5 d_D_can_142 ?_
      refine hg_ireturn d_D_can_144 rfl rfl ?_
      refine ⟨?_, I1, Rf1, rfl, hs, hr⟩
      have h2 : b = 0 ∨ b = 1 := by omega
      unfold sp_can; rw [hs_ix_s hh (by omega), hs_ix_s hq (by decide), hs_ix_s hb (by decide)]
      rw [hN]
      rcases h2 with rfl | rfl
      · first | exact absurd rfl hb0 | exact (if_pos rfl).symm
      · first | exact absurd hb0 (by decide) | exact (if_neg (by decide)).symm
    · replace hb0 := Decidable.not_not.mp hb0
      refine hg_iload4 d_D_can_137 ?_
      refine hg_goto (tgt := 144) d_D_can_139 (by decide) ?_
      refine hg_ireturn d_D_can_144 rfl rfl ?_
      refine ⟨?_, I1, Rf1, rfl, hs, hr⟩
      have h2 : b = 0 ∨ b = 1 := by omega
      unfold sp_can; rw [hs_ix_s hh (by omega), hs_ix_s hq (by decide), hs_ix_s hb (by decide)]
      rw [hN]
      rcases h2 with rfl | rfl
      · first | exact absurd rfl hb0 | exact (if_pos rfl).symm
      · first | exact absurd hb0 (by decide) | exact (if_neg (by decide)).symm
  | succ r ih =>
    intro k I1 Rf1 hkr hs hr
    obtain ⟨hX, hR, hC1, hO, hW⟩ := hE.sc hs hr
    have hn6 := hO.1
    have hcl := hs_cnt_le (fun k => sp_seen tw (hs_shv σ h (2 - q) (nI k)) a) k
    have hA1 := hA.sc hs
    refine hg_iload7 d_D_can_52 ?_
    refine hg_iload6 d_D_can_54 ?_
    refine hg_icmp_gt (tgt := 133) d_D_can_56 (by decide) (fun h_2 => absurd h_2 (fun z => by rw [nI_ltI (by omega) (by omega)] at z; omega)) (fun h_2 => ?_)
    refine hg_aload0 d_D_can_59 ?_
    refine hg_getR d_D_can_60 f_D_73 rfl rfl (hX.lt (n := 1) ⟨by decide, by decide⟩ rfl (by omega)) (hR.D (j := 1) (q := (1, 1)) rfl) ?_
    refine hg_aload0 d_D_can_63 ?_
    refine hg_getR d_D_can_64 f_D_69 rfl rfl (hX.lt (n := 1) ⟨by decide, by decide⟩ rfl (by omega)) (hR.D (j := 0) (q := (1, 0)) rfl) ?_
    refine hg_cVv d_D_can_67 l_D_191 rfl rfl (hX.lt (n := 3) ⟨by decide, by decide⟩ rfl (by omega)) rfl (Nat.le_of_ble_eq_true rfl) (m_S_become (s := 1) (s2 := 0) hX hR (by decide) (by decide) (by decide) hC1 hO) rfl ?_
    rintro _ ⟨I2, rfl, hB2, hfB2⟩
    refine hg_iload2 d_D_can_70 ?_
    have h2 : q = 0 ∨ q = 1 := by omega
    rcases h2 with rfl | rfl
    · show hg_WP l E _ Y_D_can 0 0 71 [some (.ref (hg_ad E 0 0)), some (.int (nI h)), some (.int (nI 0)), some (.int (nI b)), some (.int (nI (hs_cnt (fun k => sp_seen tw (hs_shv σ h (2 - 0) (nI k)) a) k))), some (.int (hs_fst (fun k => sp_seen tw (hs_shv σ h (2 - 0) (nI k)) a) k)), some (.int (nI (N - 1))), some (.int (nI k))] [.int 0] (I2, Lg, (hg_u3 Rf1 1 1 7 (some (19, hs_tn σ))), X) _
      refine hg_if_ne (tgt := 91) d_D_can_71 (by decide) (fun h_3 => absurd h_3 (by decide)) (fun h_3 => ?_)
      refine hg_aload0 d_D_can_74 ?_
      refine hg_getR d_D_can_75 f_D_73 rfl rfl (hX.lt (n := 1) ⟨by decide, by decide⟩ rfl (by omega)) (hR.D (j := 1) (q := (1, 1)) rfl) ?_
      refine hg_getR d_D_can_78 f_D_195 rfl rfl (hX.lt (n := 3) ⟨by decide, by decide⟩ rfl (by omega)) (hR.s0 (by omega)) ?_
      refine hg_iload1 d_D_can_81 ?_
      refine hg_aald_n (j := h) d_D_can_82 rfl (by decide) (hX.lt (n := 3) ⟨by decide, by decide⟩ rfl (by omega)) (hX.jn (n := 6) (by decide) rfl (by omega)) (hR.ha (by omega) (by omega)) ?_
      refine hg_iload7 d_D_can_83 ?_
      refine hg_putI d_D_can_85 f_D_101 rfl rfl (Or.inl rfl) rfl rfl (hX.lt (n := 18) ⟨by decide, by decide⟩ rfl (by omega)) ?_
      refine hg_goto (tgt := 105) d_D_can_88 (by decide) ?_
      refine hg_aload0 d_D_can_105 ?_
      have hO2 : hs_ok T (hs_shv σ h 2 (nI k)) := hO.shv (by decide) (by decide) (fun z => absurd z (by decide))
      have hfu : hg_fr 1 (hg_u3 I2 3 (6 * 1 + h) 2 (nI k)) I1 := hfB2.u3 (hg_tch3 (by omega))
      refine hg_cVi d_D_can_106 l_D_217 rfl rfl (hX.lt (n := 1) ⟨by decide, by decide⟩ rfl (by omega)) rfl (Nat.le_of_ble_eq_true rfl) (m_D_allSeenGoesSo (σ := (hs_shv σ h 2 (nI k))) (a := a) hX hR.tn hB2.shv hO2 (hW.fr hfu) (by show hs_wk σ ≤ 9999; omega) (hA1.fr1 hfu) ha hL) rfl ?_
      rintro _ _ ⟨I3, rfl, rfl, hf3⟩
      by_cases hu : sp_seen tw (hs_shv σ h 2 (nI k)) a = true
      · rw [if_pos hu]
        refine hg_if_ne (tgt := 115) d_D_can_109 (by decide) (fun h_4 => ?_) (fun h_4 => absurd (by decide) h_4)
        refine hg_iload4 d_D_can_115 ?_
        refine hg_if_ne (tgt := 124) d_D_can_117 (by decide) (fun hc0 => ?_) (fun hc0 => ?_)
        · refine hg_iinc4 (v := nI ((hs_cnt (fun k => sp_seen tw (hs_shv σ h (2 - 0) (nI k)) a) k) + 1)) d_D_can_124 rfl (nI_add _ _) ?_
          refine hg_iinc7 (v := nI (k + 1)) d_D_can_127 rfl (nI_add _ _) ?_
          refine hg_goto (tgt := 52) d_D_can_130 (by decide) ?_
          have := ih (k + 1) I3 (hg_u3 Rf1 1 1 7 (some (19, hs_tn σ))) (by omega) ((hf3.tr hfu).sc.tr hs) (hg_rx.u3.tr hr)
          rwa [show hs_cnt (fun k => sp_seen tw (hs_shv σ h (2 - 0) (nI k)) a) (k + 1) = hs_cnt (fun k => sp_seen tw (hs_shv σ h (2 - 0) (nI k)) a) k + 1 from if_pos hu, show hs_fst (fun k => sp_seen tw (hs_shv σ h (2 - 0) (nI k)) a) (k + 1) = hs_fst (fun k => sp_seen tw (hs_shv σ h (2 - 0) (nI k)) a) k from if_neg (fun z => hc0 (by rw [z.2]; rfl))] at this
        · replace hc0 := Decidable.not_not.mp hc0
          refine hg_iload7 d_D_can_120 ?_
          refine hg_istore5 d_D_can_122 rfl ?_
          refine hg_iinc4 (v := nI ((hs_cnt (fun k => sp_seen tw (hs_shv σ h (2 - 0) (nI k)) a) k) + 1)) d_D_can_124 rfl (nI_add _ _) ?_
          refine hg_iinc7 (v := nI (k + 1)) d_D_can_127 rfl (nI_add _ _) ?_
          refine hg_goto (tgt := 52) d_D_can_130 (by decide) ?_
          have := ih (k + 1) I3 (hg_u3 Rf1 1 1 7 (some (19, hs_tn σ))) (by omega) ((hf3.tr hfu).sc.tr hs) (hg_rx.u3.tr hr)
          have hc1 : hs_cnt (fun k => sp_seen tw (hs_shv σ h (2 - 0) (nI k)) a) k = 0 := (nI_eq (by omega) (by decide)).mp (show nI _ = nI 0 from hc0)
          rwa [show hs_cnt (fun k => sp_seen tw (hs_shv σ h (2 - 0) (nI k)) a) (k + 1) = hs_cnt (fun k => sp_seen tw (hs_shv σ h (2 - 0) (nI k)) a) k + 1 from if_pos hu, show hs_fst (fun k => sp_seen tw (hs_shv σ h (2 - 0) (nI k)) a) (k + 1) = nI k from if_pos ⟨hu, hc1⟩] at this
      · rw [if_neg hu]
        refine hg_if_ne (tgt := 115) d_D_can_109 (by decide) (fun h_5 => absurd h_5 (by decide)) (fun h_5 => ?_)
        refine hg_goto (tgt := 127) d_D_can_112 (by decide) ?_
        refine hg_iinc7 (v := nI (k + 1)) d_D_can_127 rfl (nI_add _ _) ?_
        refine hg_goto (tgt := 52) d_D_can_130 (by decide) ?_
        have := ih (k + 1) I3 (hg_u3 Rf1 1 1 7 (some (19, hs_tn σ))) (by omega) ((hf3.tr hfu).sc.tr hs) (hg_rx.u3.tr hr)
        rwa [show hs_cnt (fun k => sp_seen tw (hs_shv σ h (2 - 0) (nI k)) a) (k + 1) = hs_cnt (fun k => sp_seen tw (hs_shv σ h (2 - 0) (nI k)) a) k from if_neg hu, show hs_fst (fun k => sp_seen tw (hs_shv σ h (2 - 0) (nI k)) a) (k + 1) = hs_fst (fun k => sp_seen tw (hs_shv σ h (2 - 0) (nI k)) a) k from if_neg (fun z => hu z.1)] at this
    · show hg_WP l E _ Y_D_can 0 0 71 [some (.ref (hg_ad E 0 0)), some (.int (nI h)), some (.int (nI 1)), some (.int (nI b)), some (.int (nI (hs_cnt (fun k => sp_seen tw (hs_shv σ h (2 - 1) (nI k)) a) k))), some (.int (hs_fst (fun k => sp_seen tw (hs_shv σ h (2 - 1) (nI k)) a) k)), some (.int (nI (N - 1))), some (.int (nI k))] [.int 1] (I2, Lg, (hg_u3 Rf1 1 1 7 (some (19, hs_tn σ))), X) _
      refine hg_if_ne (tgt := 91) d_D_can_71 (by decide) (fun h_6 => ?_) (fun h_6 => absurd (by decide) h_6)
      refine hg_aload0 d_D_can_91 ?_
      refine hg_getR d_D_can_92 f_D_73 rfl rfl (hX.lt (n := 1) ⟨by decide, by decide⟩ rfl (by omega)) (hR.D (j := 1) (q := (1, 1)) rfl) ?_
      refine hg_getR d_D_can_95 f_D_195 rfl rfl (hX.lt (n := 3) ⟨by decide, by decide⟩ rfl (by omega)) (hR.s0 (by omega)) ?_
      refine hg_iload1 d_D_can_98 ?_
      refine hg_aald_n (j := h) d_D_can_99 rfl (by decide) (hX.lt (n := 3) ⟨by decide, by decide⟩ rfl (by omega)) (hX.jn (n := 6) (by decide) rfl (by omega)) (hR.ha (by omega) (by omega)) ?_
      refine hg_iload7 d_D_can_100 ?_
      refine hg_putI d_D_can_102 f_D_98 rfl rfl (Or.inl rfl) rfl rfl (hX.lt (n := 18) ⟨by decide, by decide⟩ rfl (by omega)) ?_
      refine hg_aload0 d_D_can_105 ?_
      have hO2 : hs_ok T (hs_shv σ h 1 (nI k)) := hO.shv (by decide) (by decide) (fun z => absurd z (by decide))
      have hfu : hg_fr 1 (hg_u3 I2 3 (6 * 1 + h) 1 (nI k)) I1 := hfB2.u3 (hg_tch3 (by omega))
      refine hg_cVi d_D_can_106 l_D_217 rfl rfl (hX.lt (n := 1) ⟨by decide, by decide⟩ rfl (by omega)) rfl (Nat.le_of_ble_eq_true rfl) (m_D_allSeenGoesSo (σ := (hs_shv σ h 1 (nI k))) (a := a) hX hR.tn hB2.shv hO2 (hW.fr hfu) (by show hs_wk σ ≤ 9999; omega) (hA1.fr1 hfu) ha hL) rfl ?_
      rintro _ _ ⟨I3, rfl, rfl, hf3⟩
      by_cases hu : sp_seen tw (hs_shv σ h 1 (nI k)) a = true
      · rw [if_pos hu]
        refine hg_if_ne (tgt := 115) d_D_can_109 (by decide) (fun h_7 => ?_) (fun h_7 => absurd (by decide) h_7)
        refine hg_iload4 d_D_can_115 ?_
        refine hg_if_ne (tgt := 124) d_D_can_117 (by decide) (fun hc0 => ?_) (fun hc0 => ?_)
        · refine hg_iinc4 (v := nI ((hs_cnt (fun k => sp_seen tw (hs_shv σ h (2 - 1) (nI k)) a) k) + 1)) d_D_can_124 rfl (nI_add _ _) ?_
          refine hg_iinc7 (v := nI (k + 1)) d_D_can_127 rfl (nI_add _ _) ?_
          refine hg_goto (tgt := 52) d_D_can_130 (by decide) ?_
          have := ih (k + 1) I3 (hg_u3 Rf1 1 1 7 (some (19, hs_tn σ))) (by omega) ((hf3.tr hfu).sc.tr hs) (hg_rx.u3.tr hr)
          rwa [show hs_cnt (fun k => sp_seen tw (hs_shv σ h (2 - 1) (nI k)) a) (k + 1) = hs_cnt (fun k => sp_seen tw (hs_shv σ h (2 - 1) (nI k)) a) k + 1 from if_pos hu, show hs_fst (fun k => sp_seen tw (hs_shv σ h (2 - 1) (nI k)) a) (k + 1) = hs_fst (fun k => sp_seen tw (hs_shv σ h (2 - 1) (nI k)) a) k from if_neg (fun z => hc0 (by rw [z.2]; rfl))] at this
        · replace hc0 := Decidable.not_not.mp hc0
          refine hg_iload7 d_D_can_120 ?_
          refine hg_istore5 d_D_can_122 rfl ?_
          refine hg_iinc4 (v := nI ((hs_cnt (fun k => sp_seen tw (hs_shv σ h (2 - 1) (nI k)) a) k) + 1)) d_D_can_124 rfl (nI_add _ _) ?_
          refine hg_iinc7 (v := nI (k + 1)) d_D_can_127 rfl (nI_add _ _) ?_
          refine hg_goto (tgt := 52) d_D_can_130 (by decide) ?_
          have := ih (k + 1) I3 (hg_u3 Rf1 1 1 7 (some (19, hs_tn σ))) (by omega) ((hf3.tr hfu).sc.tr hs) (hg_rx.u3.tr hr)
          have hc1 : hs_cnt (fun k => sp_seen tw (hs_shv σ h (2 - 1) (nI k)) a) k = 0 := (nI_eq (by omega) (by decide)).mp (show nI _ = nI 0 from hc0)
          rwa [show hs_cnt (fun k => sp_seen tw (hs_shv σ h (2 - 1) (nI k)) a) (k + 1) = hs_cnt (fun k => sp_seen tw (hs_shv σ h (2 - 1) (nI k)) a) k + 1 from if_pos hu, show hs_fst (fun k => sp_seen tw (hs_shv σ h (2 - 1) (nI k)) a) (k + 1) = nI k from if_pos ⟨hu, hc1⟩] at this
      · rw [if_neg hu]
        refine hg_if_ne (tgt := 115) d_D_can_109 (by decide) (fun h_8 => absurd h_8 (by decide)) (fun h_8 => ?_)
        refine hg_goto (tgt := 127) d_D_can_112 (by decide) ?_
        refine hg_iinc7 (v := nI (k + 1)) d_D_can_127 rfl (nI_add _ _) ?_
        refine hg_goto (tgt := 52) d_D_can_130 (by decide) ?_
        have := ih (k + 1) I3 (hg_u3 Rf1 1 1 7 (some (19, hs_tn σ))) (by omega) ((hf3.tr hfu).sc.tr hs) (hg_rx.u3.tr hr)
        rwa [show hs_cnt (fun k => sp_seen tw (hs_shv σ h (2 - 1) (nI k)) a) (k + 1) = hs_cnt (fun k => sp_seen tw (hs_shv σ h (2 - 1) (nI k)) a) k from if_neg hu, show hs_fst (fun k => sp_seen tw (hs_shv σ h (2 - 1) (nI k)) a) (k + 1) = hs_fst (fun k => sp_seen tw (hs_shv σ h (2 - 1) (nI k)) a) k from if_neg (fun z => hu z.1)] at this
theorem m_D_can {x y z : Int32} {a : hs_L} (hE : hq_E T tw σ I Rf X) (hw : hs_wk σ ≤ 9999) (hA : hs_LR 0 a I) (ha : a.1 ≤ 5) (hL : ∀ i, i < a.1 → ∃ m, m ≤ 12 ∧ a.2.1 i = nI m) : hg_MC l E (d + 8) Y_D_can 0 0 [.ref (hg_ad E 0 0), .int x, .int y, .int z] (I, Lg, Rf, X) (hg_i (fun v M' => hq_A v (sp_can tw σ a x y z) I Lg Rf X M')) := by
  obtain ⟨hX, hR, hC, hO, hW⟩ := id hE
  have hn6 := hO.1
  refine hg_mc k_D_can (Nat.le_of_ble_eq_true rfl) ?_
  show hg_WP l E _ Y_D_can 0 0 0 [some (.ref (hg_ad E 0 0)), some (.int x), some (.int y), some (.int z), none, none, none, none] [] (I, Lg, Rf, X) _
  refine hg_aload0 d_D_can_0 ?_
  refine hg_getR d_D_can_1 f_D_69 rfl rfl (hX.lt (n := 1) ⟨by decide, by decide⟩ rfl (by omega)) (hR.D (j := 0) (q := (1, 0)) rfl) ?_
  refine hg_iload1 d_D_can_4 ?_
  refine hg_cVi d_D_can_5 l_D_131 rfl rfl (hX.lt (n := 3) ⟨by decide, by decide⟩ rfl (by omega)) rfl (Nat.le_of_ble_eq_true rfl) (m_S_has hX (by decide) hC.1 hn6) rfl ?_
  rintro _ _ ⟨⟨hha2, rfl⟩ | ⟨hha2, rfl⟩, rfl⟩
  · obtain ⟨h, hh, eh⟩ := hha2
    have iha2 : hs_ix (hs_n σ) x = some h := by rw [eh]; exact hs_ix_s hh (by omega)
    subst eh
    show hg_WP l E _ Y_D_can 0 0 8 [some (.ref (hg_ad E 0 0)), some (.int (nI h)), some (.int y), some (.int z), none, none, none, none] [.int 1] (I, Lg, Rf, X) _
    refine hg_if_eq (tgt := 27) d_D_can_8 (by decide) (fun h_1 => absurd h_1 (by decide)) (fun h_1 => ?_)
    refine hg_iload2 d_D_can_11 ?_
    refine hg_iconst (v := 1) d_D_can_12 (by decide) ?_
    refine hg_cSi d_D_can_13 l_D_80 rfl (Nat.le_of_ble_eq_true rfl) (m_D_within (b := 1) (by decide)) rfl ?_
    rintro _ _ ⟨⟨hhb2, rfl⟩ | ⟨hhb2, rfl⟩, rfl⟩
    · obtain ⟨q, hq, eq⟩ := hhb2
      have ihb2 : hs_ix 2 y = some q := by rw [eq]; exact hs_ix_s (by omega) (by decide)
      subst eq
      show hg_WP l E _ Y_D_can 0 0 16 [some (.ref (hg_ad E 0 0)), some (.int (nI h)), some (.int (nI q)), some (.int z), none, none, none, none] [.int 1] (I, Lg, Rf, X) _
      refine hg_if_eq (tgt := 27) d_D_can_16 (by decide) (fun h_2 => absurd h_2 (by decide)) (fun h_2 => ?_)
      refine hg_iload3 d_D_can_19 ?_
      refine hg_iconst (v := 1) d_D_can_20 (by decide) ?_
      refine hg_cSi d_D_can_21 l_D_80 rfl (Nat.le_of_ble_eq_true rfl) (m_D_within (b := 1) (by decide)) rfl ?_
      rintro _ _ ⟨⟨hhc2, rfl⟩ | ⟨hhc2, rfl⟩, rfl⟩
      · obtain ⟨b, hb, eb⟩ := hhc2
        have ihc2 : hs_ix 2 z = some b := by rw [eb]; exact hs_ix_s (by omega) (by decide)
        subst eb
        show hg_WP l E _ Y_D_can 0 0 24 [some (.ref (hg_ad E 0 0)), some (.int (nI h)), some (.int (nI q)), some (.int (nI b)), none, none, none, none] [.int 1] (I, Lg, Rf, X) _
        refine hg_if_ne (tgt := 29) d_D_can_24 (by decide) (fun h_3 => ?_) (fun h_3 => absurd (by decide) h_3)
        refine hg_iconst (v := 0) d_D_can_29 (by decide) ?_
        refine hg_istore4 d_D_can_30 rfl ?_
        refine hg_bipush (v := (-5)) d_D_can_32 (by decide) ?_
        refine hg_istore5 d_D_can_34 rfl ?_
        refine hg_iload2 d_D_can_36 ?_
        have h2 : q = 0 ∨ q = 1 := by omega
        rcases h2 with rfl | rfl
        · show hg_WP l E _ Y_D_can 0 0 37 [some (.ref (hg_ad E 0 0)), some (.int (nI h)), some (.int (nI 0)), some (.int (nI b)), some (.int 0), some (.int (-5)), none, none] [.int 0] (I, Lg, Rf, X) _
          refine hg_if_ne (tgt := 45) d_D_can_37 (by decide) (fun h_4 => absurd h_4 (by decide)) (fun h_4 => ?_)
          refine hg_bipush (v := 99) d_D_can_40 (by decide) ?_
          refine hg_goto (tgt := 47) d_D_can_42 (by decide) ?_
          refine hg_istore6 d_D_can_47 rfl ?_
          refine hg_iconst (v := 0) d_D_can_49 (by decide) ?_
          refine hg_istore7 d_D_can_50 rfl ?_
          exact m_D_can_loop (N := 100) hE hw hh (by decide) (by omega) hA ha hL rfl 100 0 I Rf (Nat.zero_add _) hg_sc.rf hg_rx.rf
        · show hg_WP l E _ Y_D_can 0 0 37 [some (.ref (hg_ad E 0 0)), some (.int (nI h)), some (.int (nI 1)), some (.int (nI b)), some (.int 0), some (.int (-5)), none, none] [.int 1] (I, Lg, Rf, X) _
          refine hg_if_ne (tgt := 45) d_D_can_37 (by decide) (fun h_5 => ?_) (fun h_5 => absurd (by decide) h_5)
          refine hg_bipush (v := 9) d_D_can_45 (by decide) ?_
          refine hg_istore6 d_D_can_47 rfl ?_
          refine hg_iconst (v := 0) d_D_can_49 (by decide) ?_
          refine hg_istore7 d_D_can_50 rfl ?_
          exact m_D_can_loop (N := 10) hE hw hh (by decide) (by omega) hA ha hL rfl 10 0 I Rf (Nat.zero_add _) hg_sc.rf hg_rx.rf
      · have ihc2 : hs_ix 2 z = none := hs_ix_n2 hhc2
        refine hg_if_ne (tgt := 29) d_D_can_24 (by decide) (fun h_6 => absurd h_6 (by decide)) (fun h_6 => ?_)
        refine hg_iconst (v := (-1)) d_D_can_27 (by decide) ?_
        refine hg_ireturn d_D_can_28 rfl rfl ?_
        refine ⟨?_, I, Rf, rfl, hg_sc.rf, hg_rx.rf⟩
        simp [sp_can, iha2, ihb2, ihc2]
    · have ihb2 : hs_ix 2 y = none := hs_ix_n2 hhb2
      refine hg_if_eq (tgt := 27) d_D_can_16 (by decide) (fun h_7 => ?_) (fun h_7 => absurd (by decide) h_7)
      refine hg_iconst (v := (-1)) d_D_can_27 (by decide) ?_
      refine hg_ireturn d_D_can_28 rfl rfl ?_
      refine ⟨?_, I, Rf, rfl, hg_sc.rf, hg_rx.rf⟩
      simp [sp_can, iha2, ihb2]
  · have iha2 : hs_ix (hs_n σ) x = none := hs_ix_n hha2
    refine hg_if_eq (tgt := 27) d_D_can_8 (by decide) (fun h_8 => ?_) (fun h_8 => absurd (by decide) h_8)
    refine hg_iconst (v := (-1)) d_D_can_27 (by decide) ?_
    refine hg_ireturn d_D_can_28 rfl rfl ?_
    refine ⟨?_, I, Rf, rfl, hg_sc.rf, hg_rx.rf⟩
    simp [sp_can, iha2]

end M11
