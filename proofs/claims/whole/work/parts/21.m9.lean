/-! HangmanDinner: on, doors -/
section M9
variable {l : Launch} {E : hg_E} {d T : Nat}
variable {I : Nat → Nat → Nat → Int32} {Lg : Nat → Nat → Nat → Int64} {Rf : Nat → Nat → Nat → Option (Nat × Nat)} {X : Nat × (Nat → Nat) × (Nat → Nat → Nat)}
variable {tw : hs_W} {σ : hs_S}
theorem m_D_on {n w : Int32} (hE : hq_E T tw σ I Rf X) (hw : hs_wk σ ≤ 9999) : hg_MC l E (d + 7) Y_D_on 0 0 [.ref (hg_ad E 0 0), .int n, .int w] (I, Lg, Rf, X) (hg_i (fun v M' => hq_A v (sp_on tw σ n w) I Lg Rf X M')) := by
  obtain ⟨hX, hR, hC, hO, hW⟩ := id hE
  have hn6 := hO.1
  refine hg_mc k_D_on (Nat.le_of_ble_eq_true rfl) ?_
  show hg_WP l E _ Y_D_on 0 0 0 [some (.ref (hg_ad E 0 0)), some (.int n), some (.int w), none, none] [] (I, Lg, Rf, X) _
  refine hg_aload0 d_D_on_0 ?_
  refine hg_getR d_D_on_1 f_D_69 rfl rfl (hX.lt (n := 1) ⟨by decide, by decide⟩ rfl (by omega)) (hR.D (j := 0) (q := (1, 0)) rfl) ?_
  refine hg_iload2 d_D_on_4 ?_
  refine hg_bipush (v := 10) d_D_on_5 (by decide) ?_
  refine hg_isub d_D_on_7 ?_
  refine hg_cVi d_D_on_8 l_D_131 rfl rfl (hX.lt (n := 3) ⟨by decide, by decide⟩ rfl (by omega)) rfl (Nat.le_of_ble_eq_true rfl) (m_S_has hX (by decide) hC.1 hn6) rfl ?_
  rintro _ _ ⟨⟨hha, rfl⟩ | ⟨hha, rfl⟩, rfl⟩
  · obtain ⟨k, hk, ek⟩ := hha
    have iha : hs_ix (hs_n σ) (w - 10) = some k := by rw [ek]; exact hs_ix_s hk (by omega)
    refine hg_istore3 d_D_on_11 rfl ?_
    refine hg_aload0 d_D_on_12 ?_
    refine hg_getR d_D_on_13 f_D_69 rfl rfl (hX.lt (n := 1) ⟨by decide, by decide⟩ rfl (by omega)) (hR.D (j := 0) (q := (1, 0)) rfl) ?_
    refine hg_iload2 d_D_on_16 ?_
    refine hg_bipush (v := 20) d_D_on_17 (by decide) ?_
    refine hg_isub d_D_on_19 ?_
    refine hg_cVi d_D_on_20 l_D_131 rfl rfl (hX.lt (n := 3) ⟨by decide, by decide⟩ rfl (by omega)) rfl (Nat.le_of_ble_eq_true rfl) (m_S_has hX (by decide) hC.1 hn6) rfl ?_
    rintro _ _ ⟨⟨hhb, rfl⟩ | ⟨hhb, rfl⟩, rfl⟩
    · obtain ⟨j, hj, ej⟩ := hhb
      have ihb : hs_ix (hs_n σ) (w - 20) = some j := by rw [ej]; exact hs_ix_s hj (by omega)
      refine hg_istore4 d_D_on_23 rfl ?_
      refine hg_iload2 d_D_on_25 ?_
      refine hg_iconst (v := 2) d_D_on_26 (by decide) ?_
      refine hg_cSi d_D_on_27 l_D_80 rfl (Nat.le_of_ble_eq_true rfl) (m_D_within (b := 2) (by decide)) rfl ?_
      rintro _ _ ⟨⟨hhc, rfl⟩ | ⟨hhc, rfl⟩, rfl⟩
      · obtain ⟨c, hc, ec⟩ := hhc
        have ihc : hs_ix 3 w = some c := by rw [ec]; exact hs_ix_s (by omega) (by decide)
        refine hg_if_ne (tgt := 44) d_D_on_30 (by decide) (fun h_1 => ?_) (fun h_1 => absurd (by decide) h_1)
        refine hg_iload1 d_D_on_44 ?_
        refine hg_bipush (v := 60) d_D_on_45 (by decide) ?_
        refine hg_cSi d_D_on_47 l_D_80 rfl (Nat.le_of_ble_eq_true rfl) (m_D_within (b := 60) (by decide)) rfl ?_
        rintro _ _ ⟨⟨hhd, rfl⟩ | ⟨hhd, rfl⟩, rfl⟩
        · obtain ⟨m, hm, em⟩ := hhd
          have ihd : hs_ix 61 n = some m := by rw [em]; exact hs_ix_s (by omega) (by decide)
          subst em
          show hg_WP l E _ Y_D_on 0 0 50 [some (.ref (hg_ad E 0 0)), some (.int (nI m)), some (.int w), some (.int 1), some (.int 1)] [.int 1] (I, Lg, Rf, X) _
          refine hg_if_ne (tgt := 56) d_D_on_50 (by decide) (fun h_2 => ?_) (fun h_2 => absurd (by decide) h_2)
          refine hg_aload0 d_D_on_56 ?_
          refine hg_getR d_D_on_57 f_D_73 rfl rfl (hX.lt (n := 1) ⟨by decide, by decide⟩ rfl (by omega)) (hR.D (j := 1) (q := (1, 1)) rfl) ?_
          refine hg_aload0 d_D_on_60 ?_
          refine hg_getR d_D_on_61 f_D_69 rfl rfl (hX.lt (n := 1) ⟨by decide, by decide⟩ rfl (by omega)) (hR.D (j := 0) (q := (1, 0)) rfl) ?_
          refine hg_cVv d_D_on_64 l_D_191 rfl rfl (hX.lt (n := 3) ⟨by decide, by decide⟩ rfl (by omega)) rfl (Nat.le_of_ble_eq_true rfl) (m_S_become (s := 1) (s2 := 0) hX hR (by decide) (by decide) (by decide) hC hO) rfl ?_
          rintro _ ⟨I1, rfl, hB1, hfB1⟩
          refine hg_aload0 d_D_on_67 ?_
          refine hg_getR d_D_on_68 f_D_73 rfl rfl (hX.lt (n := 1) ⟨by decide, by decide⟩ rfl (by omega)) (hR.D (j := 1) (q := (1, 1)) rfl) ?_
          refine hg_iload1 d_D_on_71 ?_
          refine hg_cVv d_D_on_72 l_D_188 rfl rfl (hX.lt (n := 3) ⟨by decide, by decide⟩ rfl (by omega)) rfl (Nat.le_of_ble_eq_true rfl) (m_S_thursdays (s := 1) (n := m) hX hR.tn (by decide) hB1 hO (hW.fr hfB1) (by omega)) rfl ?_
          rintro _ ⟨I2, rfl, hC2, hf2⟩
          obtain ⟨hO2, hw2, hn2, -⟩ := hs_th_all (tw := tw) hO m
          refine hg_iload3 d_D_on_75 ?_
          refine hg_if_eq (tgt := 95) d_D_on_76 (by decide) (fun h_3 => absurd h_3 (by decide)) (fun h_3 => ?_)
          refine hg_aload0 d_D_on_79 ?_
          refine hg_getR d_D_on_80 f_D_73 rfl rfl (hX.lt (n := 1) ⟨by decide, by decide⟩ rfl (by omega)) (hR.D (j := 1) (q := (1, 1)) rfl) ?_
          refine hg_getR d_D_on_83 f_D_195 rfl rfl (hX.lt (n := 3) ⟨by decide, by decide⟩ rfl (by omega)) (hR.s0 (by omega)) ?_
          refine hg_iload2 d_D_on_86 ?_
          refine hg_bipush (v := 10) d_D_on_87 (by decide) ?_
          refine hg_isub d_D_on_89 ?_
          refine hg_eq1 (y := nI k) (ek) ?_
          refine hg_aald_n (j := k) d_D_on_90 rfl (by decide) (hX.lt (n := 3) ⟨by decide, by decide⟩ rfl (by omega)) (hX.jn (n := 6) (by decide) rfl (by omega)) (hR.ha (by omega) (by omega)) ?_
          refine hg_getI d_D_on_91 f_D_107 rfl rfl (hX.lt (n := 18) ⟨by decide, by decide⟩ rfl (by omega)) ?_
          refine hg_eq1 (y := hs_hv (hs_th tw σ m) k 4) (hC2.2.2.2.2.2.2.1 k 4 (by omega) (by decide)) ?_
          refine hg_ireturn d_D_on_94 rfl rfl ?_
          refine ⟨?_, I2, _, rfl, (hf2.tr hfB1).sc, hg_rx.u3⟩
          simp [sp_on, iha, ihb, ihc, ihd]
        · have ihd : hs_ix 61 n = none := hs_ix_n2 hhd
          refine hg_if_ne (tgt := 56) d_D_on_50 (by decide) (fun h_4 => absurd h_4 (by decide)) (fun h_4 => ?_)
          refine hg_bipush (v := (-2)) d_D_on_53 (by decide) ?_
          refine hg_ireturn d_D_on_55 rfl rfl ?_
          refine ⟨?_, I, Rf, rfl, hg_sc.rf, hg_rx.rf⟩
          simp [sp_on, iha, ihb, ihc, ihd]
      · have ihc : hs_ix 3 w = none := hs_ix_n2 hhc
        refine hg_if_ne (tgt := 44) d_D_on_30 (by decide) (fun h_5 => absurd h_5 (by decide)) (fun h_5 => ?_)
        refine hg_iload3 d_D_on_33 ?_
        refine hg_if_ne (tgt := 44) d_D_on_34 (by decide) (fun h_6 => ?_) (fun h_6 => absurd (by decide) h_6)
        refine hg_iload1 d_D_on_44 ?_
        refine hg_bipush (v := 60) d_D_on_45 (by decide) ?_
        refine hg_cSi d_D_on_47 l_D_80 rfl (Nat.le_of_ble_eq_true rfl) (m_D_within (b := 60) (by decide)) rfl ?_
        rintro _ _ ⟨⟨hhd, rfl⟩ | ⟨hhd, rfl⟩, rfl⟩
        · obtain ⟨m, hm, em⟩ := hhd
          have ihd : hs_ix 61 n = some m := by rw [em]; exact hs_ix_s (by omega) (by decide)
          subst em
          show hg_WP l E _ Y_D_on 0 0 50 [some (.ref (hg_ad E 0 0)), some (.int (nI m)), some (.int w), some (.int 1), some (.int 1)] [.int 1] (I, Lg, Rf, X) _
          refine hg_if_ne (tgt := 56) d_D_on_50 (by decide) (fun h_7 => ?_) (fun h_7 => absurd (by decide) h_7)
          refine hg_aload0 d_D_on_56 ?_
          refine hg_getR d_D_on_57 f_D_73 rfl rfl (hX.lt (n := 1) ⟨by decide, by decide⟩ rfl (by omega)) (hR.D (j := 1) (q := (1, 1)) rfl) ?_
          refine hg_aload0 d_D_on_60 ?_
          refine hg_getR d_D_on_61 f_D_69 rfl rfl (hX.lt (n := 1) ⟨by decide, by decide⟩ rfl (by omega)) (hR.D (j := 0) (q := (1, 0)) rfl) ?_
          refine hg_cVv d_D_on_64 l_D_191 rfl rfl (hX.lt (n := 3) ⟨by decide, by decide⟩ rfl (by omega)) rfl (Nat.le_of_ble_eq_true rfl) (m_S_become (s := 1) (s2 := 0) hX hR (by decide) (by decide) (by decide) hC hO) rfl ?_
          rintro _ ⟨I1, rfl, hB1, hfB1⟩
          refine hg_aload0 d_D_on_67 ?_
          refine hg_getR d_D_on_68 f_D_73 rfl rfl (hX.lt (n := 1) ⟨by decide, by decide⟩ rfl (by omega)) (hR.D (j := 1) (q := (1, 1)) rfl) ?_
          refine hg_iload1 d_D_on_71 ?_
          refine hg_cVv d_D_on_72 l_D_188 rfl rfl (hX.lt (n := 3) ⟨by decide, by decide⟩ rfl (by omega)) rfl (Nat.le_of_ble_eq_true rfl) (m_S_thursdays (s := 1) (n := m) hX hR.tn (by decide) hB1 hO (hW.fr hfB1) (by omega)) rfl ?_
          rintro _ ⟨I2, rfl, hC2, hf2⟩
          obtain ⟨hO2, hw2, hn2, -⟩ := hs_th_all (tw := tw) hO m
          refine hg_iload3 d_D_on_75 ?_
          refine hg_if_eq (tgt := 95) d_D_on_76 (by decide) (fun h_8 => absurd h_8 (by decide)) (fun h_8 => ?_)
          refine hg_aload0 d_D_on_79 ?_
          refine hg_getR d_D_on_80 f_D_73 rfl rfl (hX.lt (n := 1) ⟨by decide, by decide⟩ rfl (by omega)) (hR.D (j := 1) (q := (1, 1)) rfl) ?_
          refine hg_getR d_D_on_83 f_D_195 rfl rfl (hX.lt (n := 3) ⟨by decide, by decide⟩ rfl (by omega)) (hR.s0 (by omega)) ?_
          refine hg_iload2 d_D_on_86 ?_
          refine hg_bipush (v := 10) d_D_on_87 (by decide) ?_
          refine hg_isub d_D_on_89 ?_
          refine hg_eq1 (y := nI k) (ek) ?_
          refine hg_aald_n (j := k) d_D_on_90 rfl (by decide) (hX.lt (n := 3) ⟨by decide, by decide⟩ rfl (by omega)) (hX.jn (n := 6) (by decide) rfl (by omega)) (hR.ha (by omega) (by omega)) ?_
          refine hg_getI d_D_on_91 f_D_107 rfl rfl (hX.lt (n := 18) ⟨by decide, by decide⟩ rfl (by omega)) ?_
          refine hg_eq1 (y := hs_hv (hs_th tw σ m) k 4) (hC2.2.2.2.2.2.2.1 k 4 (by omega) (by decide)) ?_
          refine hg_ireturn d_D_on_94 rfl rfl ?_
          refine ⟨?_, I2, _, rfl, (hf2.tr hfB1).sc, hg_rx.u3⟩
          simp [sp_on, iha, ihb, ihc, ihd]
        · have ihd : hs_ix 61 n = none := hs_ix_n2 hhd
          refine hg_if_ne (tgt := 56) d_D_on_50 (by decide) (fun h_9 => absurd h_9 (by decide)) (fun h_9 => ?_)
          refine hg_bipush (v := (-2)) d_D_on_53 (by decide) ?_
          refine hg_ireturn d_D_on_55 rfl rfl ?_
          refine ⟨?_, I, Rf, rfl, hg_sc.rf, hg_rx.rf⟩
          simp [sp_on, iha, ihb, ihc, ihd]
    · have ihb : hs_ix (hs_n σ) (w - 20) = none := hs_ix_n hhb
      refine hg_istore4 d_D_on_23 rfl ?_
      refine hg_iload2 d_D_on_25 ?_
      refine hg_iconst (v := 2) d_D_on_26 (by decide) ?_
      refine hg_cSi d_D_on_27 l_D_80 rfl (Nat.le_of_ble_eq_true rfl) (m_D_within (b := 2) (by decide)) rfl ?_
      rintro _ _ ⟨⟨hhc, rfl⟩ | ⟨hhc, rfl⟩, rfl⟩
      · obtain ⟨c, hc, ec⟩ := hhc
        have ihc : hs_ix 3 w = some c := by rw [ec]; exact hs_ix_s (by omega) (by decide)
        refine hg_if_ne (tgt := 44) d_D_on_30 (by decide) (fun h_10 => ?_) (fun h_10 => absurd (by decide) h_10)
        refine hg_iload1 d_D_on_44 ?_
        refine hg_bipush (v := 60) d_D_on_45 (by decide) ?_
        refine hg_cSi d_D_on_47 l_D_80 rfl (Nat.le_of_ble_eq_true rfl) (m_D_within (b := 60) (by decide)) rfl ?_
        rintro _ _ ⟨⟨hhd, rfl⟩ | ⟨hhd, rfl⟩, rfl⟩
        · obtain ⟨m, hm, em⟩ := hhd
          have ihd : hs_ix 61 n = some m := by rw [em]; exact hs_ix_s (by omega) (by decide)
          subst em
          show hg_WP l E _ Y_D_on 0 0 50 [some (.ref (hg_ad E 0 0)), some (.int (nI m)), some (.int w), some (.int 1), some (.int 0)] [.int 1] (I, Lg, Rf, X) _
          refine hg_if_ne (tgt := 56) d_D_on_50 (by decide) (fun h_11 => ?_) (fun h_11 => absurd (by decide) h_11)
          refine hg_aload0 d_D_on_56 ?_
          refine hg_getR d_D_on_57 f_D_73 rfl rfl (hX.lt (n := 1) ⟨by decide, by decide⟩ rfl (by omega)) (hR.D (j := 1) (q := (1, 1)) rfl) ?_
          refine hg_aload0 d_D_on_60 ?_
          refine hg_getR d_D_on_61 f_D_69 rfl rfl (hX.lt (n := 1) ⟨by decide, by decide⟩ rfl (by omega)) (hR.D (j := 0) (q := (1, 0)) rfl) ?_
          refine hg_cVv d_D_on_64 l_D_191 rfl rfl (hX.lt (n := 3) ⟨by decide, by decide⟩ rfl (by omega)) rfl (Nat.le_of_ble_eq_true rfl) (m_S_become (s := 1) (s2 := 0) hX hR (by decide) (by decide) (by decide) hC hO) rfl ?_
          rintro _ ⟨I1, rfl, hB1, hfB1⟩
          refine hg_aload0 d_D_on_67 ?_
          refine hg_getR d_D_on_68 f_D_73 rfl rfl (hX.lt (n := 1) ⟨by decide, by decide⟩ rfl (by omega)) (hR.D (j := 1) (q := (1, 1)) rfl) ?_
          refine hg_iload1 d_D_on_71 ?_
          refine hg_cVv d_D_on_72 l_D_188 rfl rfl (hX.lt (n := 3) ⟨by decide, by decide⟩ rfl (by omega)) rfl (Nat.le_of_ble_eq_true rfl) (m_S_thursdays (s := 1) (n := m) hX hR.tn (by decide) hB1 hO (hW.fr hfB1) (by omega)) rfl ?_
          rintro _ ⟨I2, rfl, hC2, hf2⟩
          obtain ⟨hO2, hw2, hn2, -⟩ := hs_th_all (tw := tw) hO m
          refine hg_iload3 d_D_on_75 ?_
          refine hg_if_eq (tgt := 95) d_D_on_76 (by decide) (fun h_12 => absurd h_12 (by decide)) (fun h_12 => ?_)
          refine hg_aload0 d_D_on_79 ?_
          refine hg_getR d_D_on_80 f_D_73 rfl rfl (hX.lt (n := 1) ⟨by decide, by decide⟩ rfl (by omega)) (hR.D (j := 1) (q := (1, 1)) rfl) ?_
          refine hg_getR d_D_on_83 f_D_195 rfl rfl (hX.lt (n := 3) ⟨by decide, by decide⟩ rfl (by omega)) (hR.s0 (by omega)) ?_
          refine hg_iload2 d_D_on_86 ?_
          refine hg_bipush (v := 10) d_D_on_87 (by decide) ?_
          refine hg_isub d_D_on_89 ?_
          refine hg_eq1 (y := nI k) (ek) ?_
          refine hg_aald_n (j := k) d_D_on_90 rfl (by decide) (hX.lt (n := 3) ⟨by decide, by decide⟩ rfl (by omega)) (hX.jn (n := 6) (by decide) rfl (by omega)) (hR.ha (by omega) (by omega)) ?_
          refine hg_getI d_D_on_91 f_D_107 rfl rfl (hX.lt (n := 18) ⟨by decide, by decide⟩ rfl (by omega)) ?_
          refine hg_eq1 (y := hs_hv (hs_th tw σ m) k 4) (hC2.2.2.2.2.2.2.1 k 4 (by omega) (by decide)) ?_
          refine hg_ireturn d_D_on_94 rfl rfl ?_
          refine ⟨?_, I2, _, rfl, (hf2.tr hfB1).sc, hg_rx.u3⟩
          simp [sp_on, iha, ihb, ihc, ihd]
        · have ihd : hs_ix 61 n = none := hs_ix_n2 hhd
          refine hg_if_ne (tgt := 56) d_D_on_50 (by decide) (fun h_13 => absurd h_13 (by decide)) (fun h_13 => ?_)
          refine hg_bipush (v := (-2)) d_D_on_53 (by decide) ?_
          refine hg_ireturn d_D_on_55 rfl rfl ?_
          refine ⟨?_, I, Rf, rfl, hg_sc.rf, hg_rx.rf⟩
          simp [sp_on, iha, ihb, ihc, ihd]
      · have ihc : hs_ix 3 w = none := hs_ix_n2 hhc
        refine hg_if_ne (tgt := 44) d_D_on_30 (by decide) (fun h_14 => absurd h_14 (by decide)) (fun h_14 => ?_)
        refine hg_iload3 d_D_on_33 ?_
        refine hg_if_ne (tgt := 44) d_D_on_34 (by decide) (fun h_15 => ?_) (fun h_15 => absurd (by decide) h_15)
        refine hg_iload1 d_D_on_44 ?_
        refine hg_bipush (v := 60) d_D_on_45 (by decide) ?_
        refine hg_cSi d_D_on_47 l_D_80 rfl (Nat.le_of_ble_eq_true rfl) (m_D_within (b := 60) (by decide)) rfl ?_
        rintro _ _ ⟨⟨hhd, rfl⟩ | ⟨hhd, rfl⟩, rfl⟩
        · obtain ⟨m, hm, em⟩ := hhd
          have ihd : hs_ix 61 n = some m := by rw [em]; exact hs_ix_s (by omega) (by decide)
          subst em
          show hg_WP l E _ Y_D_on 0 0 50 [some (.ref (hg_ad E 0 0)), some (.int (nI m)), some (.int w), some (.int 1), some (.int 0)] [.int 1] (I, Lg, Rf, X) _
          refine hg_if_ne (tgt := 56) d_D_on_50 (by decide) (fun h_16 => ?_) (fun h_16 => absurd (by decide) h_16)
          refine hg_aload0 d_D_on_56 ?_
          refine hg_getR d_D_on_57 f_D_73 rfl rfl (hX.lt (n := 1) ⟨by decide, by decide⟩ rfl (by omega)) (hR.D (j := 1) (q := (1, 1)) rfl) ?_
          refine hg_aload0 d_D_on_60 ?_
          refine hg_getR d_D_on_61 f_D_69 rfl rfl (hX.lt (n := 1) ⟨by decide, by decide⟩ rfl (by omega)) (hR.D (j := 0) (q := (1, 0)) rfl) ?_
          refine hg_cVv d_D_on_64 l_D_191 rfl rfl (hX.lt (n := 3) ⟨by decide, by decide⟩ rfl (by omega)) rfl (Nat.le_of_ble_eq_true rfl) (m_S_become (s := 1) (s2 := 0) hX hR (by decide) (by decide) (by decide) hC hO) rfl ?_
          rintro _ ⟨I1, rfl, hB1, hfB1⟩
          refine hg_aload0 d_D_on_67 ?_
          refine hg_getR d_D_on_68 f_D_73 rfl rfl (hX.lt (n := 1) ⟨by decide, by decide⟩ rfl (by omega)) (hR.D (j := 1) (q := (1, 1)) rfl) ?_
          refine hg_iload1 d_D_on_71 ?_
          refine hg_cVv d_D_on_72 l_D_188 rfl rfl (hX.lt (n := 3) ⟨by decide, by decide⟩ rfl (by omega)) rfl (Nat.le_of_ble_eq_true rfl) (m_S_thursdays (s := 1) (n := m) hX hR.tn (by decide) hB1 hO (hW.fr hfB1) (by omega)) rfl ?_
          rintro _ ⟨I2, rfl, hC2, hf2⟩
          obtain ⟨hO2, hw2, hn2, -⟩ := hs_th_all (tw := tw) hO m
          refine hg_iload3 d_D_on_75 ?_
          refine hg_if_eq (tgt := 95) d_D_on_76 (by decide) (fun h_17 => absurd h_17 (by decide)) (fun h_17 => ?_)
          refine hg_aload0 d_D_on_79 ?_
          refine hg_getR d_D_on_80 f_D_73 rfl rfl (hX.lt (n := 1) ⟨by decide, by decide⟩ rfl (by omega)) (hR.D (j := 1) (q := (1, 1)) rfl) ?_
          refine hg_getR d_D_on_83 f_D_195 rfl rfl (hX.lt (n := 3) ⟨by decide, by decide⟩ rfl (by omega)) (hR.s0 (by omega)) ?_
          refine hg_iload2 d_D_on_86 ?_
          refine hg_bipush (v := 10) d_D_on_87 (by decide) ?_
          refine hg_isub d_D_on_89 ?_
          refine hg_eq1 (y := nI k) (ek) ?_
          refine hg_aald_n (j := k) d_D_on_90 rfl (by decide) (hX.lt (n := 3) ⟨by decide, by decide⟩ rfl (by omega)) (hX.jn (n := 6) (by decide) rfl (by omega)) (hR.ha (by omega) (by omega)) ?_
          refine hg_getI d_D_on_91 f_D_107 rfl rfl (hX.lt (n := 18) ⟨by decide, by decide⟩ rfl (by omega)) ?_
          refine hg_eq1 (y := hs_hv (hs_th tw σ m) k 4) (hC2.2.2.2.2.2.2.1 k 4 (by omega) (by decide)) ?_
          refine hg_ireturn d_D_on_94 rfl rfl ?_
          refine ⟨?_, I2, _, rfl, (hf2.tr hfB1).sc, hg_rx.u3⟩
          simp [sp_on, iha, ihb, ihc, ihd]
        · have ihd : hs_ix 61 n = none := hs_ix_n2 hhd
          refine hg_if_ne (tgt := 56) d_D_on_50 (by decide) (fun h_18 => absurd h_18 (by decide)) (fun h_18 => ?_)
          refine hg_bipush (v := (-2)) d_D_on_53 (by decide) ?_
          refine hg_ireturn d_D_on_55 rfl rfl ?_
          refine ⟨?_, I, Rf, rfl, hg_sc.rf, hg_rx.rf⟩
          simp [sp_on, iha, ihb, ihc, ihd]
  · have iha : hs_ix (hs_n σ) (w - 10) = none := hs_ix_n hha
    refine hg_istore3 d_D_on_11 rfl ?_
    refine hg_aload0 d_D_on_12 ?_
    refine hg_getR d_D_on_13 f_D_69 rfl rfl (hX.lt (n := 1) ⟨by decide, by decide⟩ rfl (by omega)) (hR.D (j := 0) (q := (1, 0)) rfl) ?_
    refine hg_iload2 d_D_on_16 ?_
    refine hg_bipush (v := 20) d_D_on_17 (by decide) ?_
    refine hg_isub d_D_on_19 ?_
    refine hg_cVi d_D_on_20 l_D_131 rfl rfl (hX.lt (n := 3) ⟨by decide, by decide⟩ rfl (by omega)) rfl (Nat.le_of_ble_eq_true rfl) (m_S_has hX (by decide) hC.1 hn6) rfl ?_
    rintro _ _ ⟨⟨hhb, rfl⟩ | ⟨hhb, rfl⟩, rfl⟩
    · obtain ⟨j, hj, ej⟩ := hhb
      have ihb : hs_ix (hs_n σ) (w - 20) = some j := by rw [ej]; exact hs_ix_s hj (by omega)
      refine hg_istore4 d_D_on_23 rfl ?_
      refine hg_iload2 d_D_on_25 ?_
      refine hg_iconst (v := 2) d_D_on_26 (by decide) ?_
      refine hg_cSi d_D_on_27 l_D_80 rfl (Nat.le_of_ble_eq_true rfl) (m_D_within (b := 2) (by decide)) rfl ?_
      rintro _ _ ⟨⟨hhc, rfl⟩ | ⟨hhc, rfl⟩, rfl⟩
      · obtain ⟨c, hc, ec⟩ := hhc
        have ihc : hs_ix 3 w = some c := by rw [ec]; exact hs_ix_s (by omega) (by decide)
        refine hg_if_ne (tgt := 44) d_D_on_30 (by decide) (fun h_19 => ?_) (fun h_19 => absurd (by decide) h_19)
        refine hg_iload1 d_D_on_44 ?_
        refine hg_bipush (v := 60) d_D_on_45 (by decide) ?_
        refine hg_cSi d_D_on_47 l_D_80 rfl (Nat.le_of_ble_eq_true rfl) (m_D_within (b := 60) (by decide)) rfl ?_
        rintro _ _ ⟨⟨hhd, rfl⟩ | ⟨hhd, rfl⟩, rfl⟩
        · obtain ⟨m, hm, em⟩ := hhd
          have ihd : hs_ix 61 n = some m := by rw [em]; exact hs_ix_s (by omega) (by decide)
          subst em
          show hg_WP l E _ Y_D_on 0 0 50 [some (.ref (hg_ad E 0 0)), some (.int (nI m)), some (.int w), some (.int 0), some (.int 1)] [.int 1] (I, Lg, Rf, X) _
          refine hg_if_ne (tgt := 56) d_D_on_50 (by decide) (fun h_20 => ?_) (fun h_20 => absurd (by decide) h_20)
          refine hg_aload0 d_D_on_56 ?_
          refine hg_getR d_D_on_57 f_D_73 rfl rfl (hX.lt (n := 1) ⟨by decide, by decide⟩ rfl (by omega)) (hR.D (j := 1) (q := (1, 1)) rfl) ?_
          refine hg_aload0 d_D_on_60 ?_
          refine hg_getR d_D_on_61 f_D_69 rfl rfl (hX.lt (n := 1) ⟨by decide, by decide⟩ rfl (by omega)) (hR.D (j := 0) (q := (1, 0)) rfl) ?_
          refine hg_cVv d_D_on_64 l_D_191 rfl rfl (hX.lt (n := 3) ⟨by decide, by decide⟩ rfl (by omega)) rfl (Nat.le_of_ble_eq_true rfl) (m_S_become (s := 1) (s2 := 0) hX hR (by decide) (by decide) (by decide) hC hO) rfl ?_
          rintro _ ⟨I1, rfl, hB1, hfB1⟩
          refine hg_aload0 d_D_on_67 ?_
          refine hg_getR d_D_on_68 f_D_73 rfl rfl (hX.lt (n := 1) ⟨by decide, by decide⟩ rfl (by omega)) (hR.D (j := 1) (q := (1, 1)) rfl) ?_
          refine hg_iload1 d_D_on_71 ?_
          refine hg_cVv d_D_on_72 l_D_188 rfl rfl (hX.lt (n := 3) ⟨by decide, by decide⟩ rfl (by omega)) rfl (Nat.le_of_ble_eq_true rfl) (m_S_thursdays (s := 1) (n := m) hX hR.tn (by decide) hB1 hO (hW.fr hfB1) (by omega)) rfl ?_
          rintro _ ⟨I2, rfl, hC2, hf2⟩
          obtain ⟨hO2, hw2, hn2, -⟩ := hs_th_all (tw := tw) hO m
          refine hg_iload3 d_D_on_75 ?_
          refine hg_if_eq (tgt := 95) d_D_on_76 (by decide) (fun h_21 => ?_) (fun h_21 => absurd (by decide) h_21)
          refine hg_iload4 d_D_on_95 ?_
          refine hg_if_eq (tgt := 116) d_D_on_97 (by decide) (fun h_22 => absurd h_22 (by decide)) (fun h_22 => ?_)
          refine hg_aload0 d_D_on_100 ?_
          refine hg_getR d_D_on_101 f_D_73 rfl rfl (hX.lt (n := 1) ⟨by decide, by decide⟩ rfl (by omega)) (hR.D (j := 1) (q := (1, 1)) rfl) ?_
          refine hg_getR d_D_on_104 f_D_195 rfl rfl (hX.lt (n := 3) ⟨by decide, by decide⟩ rfl (by omega)) (hR.s0 (by omega)) ?_
          refine hg_iload2 d_D_on_107 ?_
          refine hg_bipush (v := 20) d_D_on_108 (by decide) ?_
          refine hg_isub d_D_on_110 ?_
          refine hg_eq1 (y := nI j) (ej) ?_
          refine hg_aald_n (j := j) d_D_on_111 rfl (by decide) (hX.lt (n := 3) ⟨by decide, by decide⟩ rfl (by omega)) (hX.jn (n := 6) (by decide) rfl (by omega)) (hR.ha (by omega) (by omega)) ?_
          refine hg_getI d_D_on_112 f_D_104 rfl rfl (hX.lt (n := 18) ⟨by decide, by decide⟩ rfl (by omega)) ?_
          refine hg_eq1 (y := hs_hv (hs_th tw σ m) j 3) (hC2.2.2.2.2.2.2.1 j 3 (by omega) (by decide)) ?_
          refine hg_ireturn d_D_on_115 rfl rfl ?_
          refine ⟨?_, I2, _, rfl, (hf2.tr hfB1).sc, hg_rx.u3⟩
          simp [sp_on, iha, ihb, ihc, ihd]
        · have ihd : hs_ix 61 n = none := hs_ix_n2 hhd
          refine hg_if_ne (tgt := 56) d_D_on_50 (by decide) (fun h_23 => absurd h_23 (by decide)) (fun h_23 => ?_)
          refine hg_bipush (v := (-2)) d_D_on_53 (by decide) ?_
          refine hg_ireturn d_D_on_55 rfl rfl ?_
          refine ⟨?_, I, Rf, rfl, hg_sc.rf, hg_rx.rf⟩
          simp [sp_on, iha, ihb, ihc, ihd]
      · have ihc : hs_ix 3 w = none := hs_ix_n2 hhc
        refine hg_if_ne (tgt := 44) d_D_on_30 (by decide) (fun h_24 => absurd h_24 (by decide)) (fun h_24 => ?_)
        refine hg_iload3 d_D_on_33 ?_
        refine hg_if_ne (tgt := 44) d_D_on_34 (by decide) (fun h_25 => absurd h_25 (by decide)) (fun h_25 => ?_)
        refine hg_iload4 d_D_on_37 ?_
        refine hg_if_ne (tgt := 44) d_D_on_39 (by decide) (fun h_26 => ?_) (fun h_26 => absurd (by decide) h_26)
        refine hg_iload1 d_D_on_44 ?_
        refine hg_bipush (v := 60) d_D_on_45 (by decide) ?_
        refine hg_cSi d_D_on_47 l_D_80 rfl (Nat.le_of_ble_eq_true rfl) (m_D_within (b := 60) (by decide)) rfl ?_
        rintro _ _ ⟨⟨hhd, rfl⟩ | ⟨hhd, rfl⟩, rfl⟩
        · obtain ⟨m, hm, em⟩ := hhd
          have ihd : hs_ix 61 n = some m := by rw [em]; exact hs_ix_s (by omega) (by decide)
          subst em
          show hg_WP l E _ Y_D_on 0 0 50 [some (.ref (hg_ad E 0 0)), some (.int (nI m)), some (.int w), some (.int 0), some (.int 1)] [.int 1] (I, Lg, Rf, X) _
          refine hg_if_ne (tgt := 56) d_D_on_50 (by decide) (fun h_27 => ?_) (fun h_27 => absurd (by decide) h_27)
          refine hg_aload0 d_D_on_56 ?_
          refine hg_getR d_D_on_57 f_D_73 rfl rfl (hX.lt (n := 1) ⟨by decide, by decide⟩ rfl (by omega)) (hR.D (j := 1) (q := (1, 1)) rfl) ?_
          refine hg_aload0 d_D_on_60 ?_
          refine hg_getR d_D_on_61 f_D_69 rfl rfl (hX.lt (n := 1) ⟨by decide, by decide⟩ rfl (by omega)) (hR.D (j := 0) (q := (1, 0)) rfl) ?_
          refine hg_cVv d_D_on_64 l_D_191 rfl rfl (hX.lt (n := 3) ⟨by decide, by decide⟩ rfl (by omega)) rfl (Nat.le_of_ble_eq_true rfl) (m_S_become (s := 1) (s2 := 0) hX hR (by decide) (by decide) (by decide) hC hO) rfl ?_
          rintro _ ⟨I1, rfl, hB1, hfB1⟩
          refine hg_aload0 d_D_on_67 ?_
          refine hg_getR d_D_on_68 f_D_73 rfl rfl (hX.lt (n := 1) ⟨by decide, by decide⟩ rfl (by omega)) (hR.D (j := 1) (q := (1, 1)) rfl) ?_
          refine hg_iload1 d_D_on_71 ?_
          refine hg_cVv d_D_on_72 l_D_188 rfl rfl (hX.lt (n := 3) ⟨by decide, by decide⟩ rfl (by omega)) rfl (Nat.le_of_ble_eq_true rfl) (m_S_thursdays (s := 1) (n := m) hX hR.tn (by decide) hB1 hO (hW.fr hfB1) (by omega)) rfl ?_
          rintro _ ⟨I2, rfl, hC2, hf2⟩
          obtain ⟨hO2, hw2, hn2, -⟩ := hs_th_all (tw := tw) hO m
          refine hg_iload3 d_D_on_75 ?_
          refine hg_if_eq (tgt := 95) d_D_on_76 (by decide) (fun h_28 => ?_) (fun h_28 => absurd (by decide) h_28)
          refine hg_iload4 d_D_on_95 ?_
          refine hg_if_eq (tgt := 116) d_D_on_97 (by decide) (fun h_29 => absurd h_29 (by decide)) (fun h_29 => ?_)
          refine hg_aload0 d_D_on_100 ?_
          refine hg_getR d_D_on_101 f_D_73 rfl rfl (hX.lt (n := 1) ⟨by decide, by decide⟩ rfl (by omega)) (hR.D (j := 1) (q := (1, 1)) rfl) ?_
          refine hg_getR d_D_on_104 f_D_195 rfl rfl (hX.lt (n := 3) ⟨by decide, by decide⟩ rfl (by omega)) (hR.s0 (by omega)) ?_
          refine hg_iload2 d_D_on_107 ?_
          refine hg_bipush (v := 20) d_D_on_108 (by decide) ?_
          refine hg_isub d_D_on_110 ?_
          refine hg_eq1 (y := nI j) (ej) ?_
          refine hg_aald_n (j := j) d_D_on_111 rfl (by decide) (hX.lt (n := 3) ⟨by decide, by decide⟩ rfl (by omega)) (hX.jn (n := 6) (by decide) rfl (by omega)) (hR.ha (by omega) (by omega)) ?_
          refine hg_getI d_D_on_112 f_D_104 rfl rfl (hX.lt (n := 18) ⟨by decide, by decide⟩ rfl (by omega)) ?_
          refine hg_eq1 (y := hs_hv (hs_th tw σ m) j 3) (hC2.2.2.2.2.2.2.1 j 3 (by omega) (by decide)) ?_
          refine hg_ireturn d_D_on_115 rfl rfl ?_
          refine ⟨?_, I2, _, rfl, (hf2.tr hfB1).sc, hg_rx.u3⟩
          simp [sp_on, iha, ihb, ihc, ihd]
        · have ihd : hs_ix 61 n = none := hs_ix_n2 hhd
          refine hg_if_ne (tgt := 56) d_D_on_50 (by decide) (fun h_30 => absurd h_30 (by decide)) (fun h_30 => ?_)
          refine hg_bipush (v := (-2)) d_D_on_53 (by decide) ?_
          refine hg_ireturn d_D_on_55 rfl rfl ?_
          refine ⟨?_, I, Rf, rfl, hg_sc.rf, hg_rx.rf⟩
          simp [sp_on, iha, ihb, ihc, ihd]
    · have ihb : hs_ix (hs_n σ) (w - 20) = none := hs_ix_n hhb
      refine hg_istore4 d_D_on_23 rfl ?_
      refine hg_iload2 d_D_on_25 ?_
      refine hg_iconst (v := 2) d_D_on_26 (by decide) ?_
      refine hg_cSi d_D_on_27 l_D_80 rfl (Nat.le_of_ble_eq_true rfl) (m_D_within (b := 2) (by decide)) rfl ?_
      rintro _ _ ⟨⟨hhc, rfl⟩ | ⟨hhc, rfl⟩, rfl⟩
      · obtain ⟨c, hc, ec⟩ := hhc
        have ihc : hs_ix 3 w = some c := by rw [ec]; exact hs_ix_s (by omega) (by decide)
        refine hg_if_ne (tgt := 44) d_D_on_30 (by decide) (fun h_31 => ?_) (fun h_31 => absurd (by decide) h_31)
        refine hg_iload1 d_D_on_44 ?_
        refine hg_bipush (v := 60) d_D_on_45 (by decide) ?_
        refine hg_cSi d_D_on_47 l_D_80 rfl (Nat.le_of_ble_eq_true rfl) (m_D_within (b := 60) (by decide)) rfl ?_
        rintro _ _ ⟨⟨hhd, rfl⟩ | ⟨hhd, rfl⟩, rfl⟩
        · obtain ⟨m, hm, em⟩ := hhd
          have ihd : hs_ix 61 n = some m := by rw [em]; exact hs_ix_s (by omega) (by decide)
          subst em
          show hg_WP l E _ Y_D_on 0 0 50 [some (.ref (hg_ad E 0 0)), some (.int (nI m)), some (.int w), some (.int 0), some (.int 0)] [.int 1] (I, Lg, Rf, X) _
          refine hg_if_ne (tgt := 56) d_D_on_50 (by decide) (fun h_32 => ?_) (fun h_32 => absurd (by decide) h_32)
          refine hg_aload0 d_D_on_56 ?_
          refine hg_getR d_D_on_57 f_D_73 rfl rfl (hX.lt (n := 1) ⟨by decide, by decide⟩ rfl (by omega)) (hR.D (j := 1) (q := (1, 1)) rfl) ?_
          refine hg_aload0 d_D_on_60 ?_
          refine hg_getR d_D_on_61 f_D_69 rfl rfl (hX.lt (n := 1) ⟨by decide, by decide⟩ rfl (by omega)) (hR.D (j := 0) (q := (1, 0)) rfl) ?_
          refine hg_cVv d_D_on_64 l_D_191 rfl rfl (hX.lt (n := 3) ⟨by decide, by decide⟩ rfl (by omega)) rfl (Nat.le_of_ble_eq_true rfl) (m_S_become (s := 1) (s2 := 0) hX hR (by decide) (by decide) (by decide) hC hO) rfl ?_
          rintro _ ⟨I1, rfl, hB1, hfB1⟩
          refine hg_aload0 d_D_on_67 ?_
          refine hg_getR d_D_on_68 f_D_73 rfl rfl (hX.lt (n := 1) ⟨by decide, by decide⟩ rfl (by omega)) (hR.D (j := 1) (q := (1, 1)) rfl) ?_
          refine hg_iload1 d_D_on_71 ?_
          refine hg_cVv d_D_on_72 l_D_188 rfl rfl (hX.lt (n := 3) ⟨by decide, by decide⟩ rfl (by omega)) rfl (Nat.le_of_ble_eq_true rfl) (m_S_thursdays (s := 1) (n := m) hX hR.tn (by decide) hB1 hO (hW.fr hfB1) (by omega)) rfl ?_
          rintro _ ⟨I2, rfl, hC2, hf2⟩
          obtain ⟨hO2, hw2, hn2, -⟩ := hs_th_all (tw := tw) hO m
          refine hg_iload3 d_D_on_75 ?_
          refine hg_if_eq (tgt := 95) d_D_on_76 (by decide) (fun h_33 => ?_) (fun h_33 => absurd (by decide) h_33)
          refine hg_iload4 d_D_on_95 ?_
          refine hg_if_eq (tgt := 116) d_D_on_97 (by decide) (fun h_34 => ?_) (fun h_34 => absurd (by decide) h_34)
          refine hg_iload2 d_D_on_116 ?_
          refine hg_if_ne (tgt := 131) d_D_on_117 (by decide) (fun hw0 => ?_) (fun hw0 => ?_)
          · refine hg_iload2 d_D_on_131 ?_
            refine hg_iconst (v := 1) d_D_on_132 (by decide) ?_
            refine hg_icmp_ne (tgt := 146) d_D_on_133 (by decide) (fun hw1 => ?_) (fun hw1 => ?_)
            · refine hg_aload0 d_D_on_146 ?_
              refine hg_getR d_D_on_147 f_D_73 rfl rfl (hX.lt (n := 1) ⟨by decide, by decide⟩ rfl (by omega)) (hR.D (j := 1) (q := (1, 1)) rfl) ?_
              refine hg_getI d_D_on_150 f_D_167 rfl rfl (hX.lt (n := 3) ⟨by decide, by decide⟩ rfl (by omega)) ?_
              refine hg_eq1 (y := nI (hs_hu (hs_th tw σ m))) (hC2.2.2.1) ?_
              refine hg_ireturn d_D_on_153 rfl rfl ?_
              refine ⟨?_, I2, _, rfl, (hf2.tr hfB1).sc, hg_rx.u3⟩
              simp only [sp_on, iha, ihb, ihc, ihd]
              simp [hw0, hw1]
            · replace hw1 := Decidable.not_not.mp hw1
              refine hg_aload0 d_D_on_136 ?_
              refine hg_getR d_D_on_137 f_D_73 rfl rfl (hX.lt (n := 1) ⟨by decide, by decide⟩ rfl (by omega)) (hR.D (j := 1) (q := (1, 1)) rfl) ?_
              refine hg_getI d_D_on_140 f_D_170 rfl rfl (hX.lt (n := 3) ⟨by decide, by decide⟩ rfl (by omega)) ?_
              refine hg_eq1 (y := nI (hs_cl (hs_th tw σ m))) (hC2.2.2.2.1) ?_
              refine hg_goto (tgt := 153) d_D_on_143 (by decide) ?_
              refine hg_ireturn d_D_on_153 rfl rfl ?_
              refine ⟨?_, I2, _, rfl, (hf2.tr hfB1).sc, hg_rx.u3⟩
              simp only [sp_on, iha, ihb, ihc, ihd]
              simp [hw0, hw1]
          · replace hw0 := Decidable.not_not.mp hw0
            refine hg_aload0 d_D_on_120 ?_
            refine hg_getR d_D_on_121 f_D_73 rfl rfl (hX.lt (n := 1) ⟨by decide, by decide⟩ rfl (by omega)) (hR.D (j := 1) (q := (1, 1)) rfl) ?_
            refine hg_cVi d_D_on_124 l_D_173 rfl rfl (hX.lt (n := 3) ⟨by decide, by decide⟩ rfl (by omega)) rfl (Nat.le_of_ble_eq_true rfl) (m_S_host (s := 1) hX hR.tn (by decide) hC2 hO2 ((hW.fr hfB1).fr hf2) (by omega)) rfl ?_
            rintro _ _ ⟨I3, rfl, rfl, he3⟩
            refine hg_cSi d_D_on_127 l_D_176 rfl (Nat.le_of_ble_eq_true rfl) (m_D_orNotThere) rfl ?_
            rintro _ _ ⟨rfl, rfl⟩
            refine hg_ireturn d_D_on_130 rfl rfl ?_
            refine ⟨?_, I3, _, rfl, (hg_e6.sc he3).tr (hf2.tr hfB1).sc, hg_rx.u3⟩
            rw [hs_hov_h5 _ (fun x hx => by have := hs_ho_lt hO2 hx; omega)]
            simp only [sp_on, iha, ihb, ihc, ihd]
            simp [hw0]
        · have ihd : hs_ix 61 n = none := hs_ix_n2 hhd
          refine hg_if_ne (tgt := 56) d_D_on_50 (by decide) (fun h_35 => absurd h_35 (by decide)) (fun h_35 => ?_)
          refine hg_bipush (v := (-2)) d_D_on_53 (by decide) ?_
          refine hg_ireturn d_D_on_55 rfl rfl ?_
          refine ⟨?_, I, Rf, rfl, hg_sc.rf, hg_rx.rf⟩
          simp [sp_on, iha, ihb, ihc, ihd]
      · have ihc : hs_ix 3 w = none := hs_ix_n2 hhc
        refine hg_if_ne (tgt := 44) d_D_on_30 (by decide) (fun h_36 => absurd h_36 (by decide)) (fun h_36 => ?_)
        refine hg_iload3 d_D_on_33 ?_
        refine hg_if_ne (tgt := 44) d_D_on_34 (by decide) (fun h_37 => absurd h_37 (by decide)) (fun h_37 => ?_)
        refine hg_iload4 d_D_on_37 ?_
        refine hg_if_ne (tgt := 44) d_D_on_39 (by decide) (fun h_38 => absurd h_38 (by decide)) (fun h_38 => ?_)
        refine hg_iconst (v := (-1)) d_D_on_42 (by decide) ?_
        refine hg_ireturn d_D_on_43 rfl rfl ?_
        refine ⟨?_, I, Rf, rfl, hg_sc.rf, hg_rx.rf⟩
        simp [sp_on, iha, ihb, ihc]

theorem m_D_doors_in {m : Nat} (hE : hq_E T tw σ I Rf X) (hw : hs_wk σ ≤ 9999) (hm : m ≤ 20) {p : Nat} (hp : p < hs_n σ) (r : Nat × Int32) (K : ∀ (I2 : Nat → Nat → Nat → Int32) (Rf2 : Nat → Nat → Nat → Option (Nat × Nat)), hg_sc I2 I → hg_rx Rf2 Rf → r.1 < 2 ^ 31 → hg_WP l E (d + 6) Y_D_doors 0 0 47 [some (.ref (hg_ad E 0 0)), some (.int (nI m)), some (.int (nI r.1)), some (.int r.2), some (.int (nI (p + 1))), some (.int (nI (hs_n σ)))] [] (I2, Lg, Rf2, X) (hg_i (fun v M' => hq_A v (sp_doors tw σ (nI m)) I Lg Rf X M'))) : ∀ (k q : Nat) (a : Nat × Int32) (I1 : Nat → Nat → Nat → Int32) (Rf1 : Nat → Nat → Nat → Option (Nat × Nat)), q + k = hs_n σ → p < q → a.1 < 2 ^ 31 → hg_sc I1 I → hg_rx Rf1 Rf → sp_d2 tw σ m p k q a = r → hg_WP l E (d + 6) Y_D_doors 0 0 65 [some (.ref (hg_ad E 0 0)), some (.int (nI m)), some (.int (nI a.1)), some (.int a.2), some (.int (nI p)), some (.int (nI q))] [] (I1, Lg, Rf1, X) (hg_i (fun v M' => hq_A v (sp_doors tw σ (nI m)) I Lg Rf X M')) := by
  intro k
  induction k with
  | zero =>
    intro q a I1 Rf1 hqk hpq ha hs hr he
    obtain ⟨hX, hR, hC1, hO, hW⟩ := hE.sc hs hr
    obtain rfl : q = hs_n σ := by omega
    obtain rfl : a = r := he
    have hn6 := hO.1
    refine hg_iload5 d_D_doors_65 ?_
    refine hg_aload0 d_D_doors_67 ?_
    refine hg_getR d_D_doors_68 f_D_69 rfl rfl (hX.lt (n := 1) ⟨by decide, by decide⟩ rfl (by omega)) (hR.D (j := 0) (q := (1, 0)) rfl) ?_
    refine hg_getI d_D_doors_71 f_D_185 rfl rfl (hX.lt (n := 3) ⟨by decide, by decide⟩ rfl (by omega)) ?_
    refine hg_eq1 (y := nI (hs_n σ)) (hC1.1) ?_
    refine hg_icmp_ge (tgt := 141) d_D_doors_74 (by decide) (fun h_1 => ?_) (fun h_1 => absurd (Int32.le_refl _) h_1)
    refine hg_iinc4 (v := nI (p + 1)) d_D_doors_141 rfl (nI_add _ _) ?_
    refine hg_goto (tgt := 47) d_D_doors_144 (by decide) ?_
    exact K I1 Rf1 hs hr ha
  | succ k ih =>
    intro q a I1 Rf1 hqk hpq ha hs hr he
    obtain ⟨hX, hR, hC1, hO, hW⟩ := hE.sc hs hr
    have hn6 := hO.1
    refine hg_iload5 d_D_doors_65 ?_
    refine hg_aload0 d_D_doors_67 ?_
    refine hg_getR d_D_doors_68 f_D_69 rfl rfl (hX.lt (n := 1) ⟨by decide, by decide⟩ rfl (by omega)) (hR.D (j := 0) (q := (1, 0)) rfl) ?_
    refine hg_getI d_D_doors_71 f_D_185 rfl rfl (hX.lt (n := 3) ⟨by decide, by decide⟩ rfl (by omega)) ?_
    refine hg_eq1 (y := nI (hs_n σ)) (hC1.1) ?_
    refine hg_icmp_ge (tgt := 141) d_D_doors_74 (by decide) (fun h_2 => absurd h_2 (nI_ge (by omega) (by omega))) (fun h_2 => ?_)
    refine hg_aload0 d_D_doors_77 ?_
    refine hg_getR d_D_doors_78 f_D_73 rfl rfl (hX.lt (n := 1) ⟨by decide, by decide⟩ rfl (by omega)) (hR.D (j := 1) (q := (1, 1)) rfl) ?_
    refine hg_aload0 d_D_doors_81 ?_
    refine hg_getR d_D_doors_82 f_D_69 rfl rfl (hX.lt (n := 1) ⟨by decide, by decide⟩ rfl (by omega)) (hR.D (j := 0) (q := (1, 0)) rfl) ?_
    refine hg_cVv d_D_doors_85 l_D_191 rfl rfl (hX.lt (n := 3) ⟨by decide, by decide⟩ rfl (by omega)) rfl (Nat.le_of_ble_eq_true rfl) (m_S_become (s := 1) (s2 := 0) hX hR (by decide) (by decide) (by decide) hC1 hO) rfl ?_
    rintro _ ⟨I2, rfl, hB2, hfB2⟩
    refine hg_aload0 d_D_doors_88 ?_
    refine hg_getR d_D_doors_89 f_D_73 rfl rfl (hX.lt (n := 1) ⟨by decide, by decide⟩ rfl (by omega)) (hR.D (j := 1) (q := (1, 1)) rfl) ?_
    refine hg_iload4 d_D_doors_92 ?_
    refine hg_iload5 d_D_doors_94 ?_
    obtain ⟨hp1, hp2⟩ := hs_plc_ok hO hp
    obtain ⟨hq1, hq2⟩ := hs_plc_ok hO (show q < hs_n σ by omega)
    have hch := m_S_change (l := l) (E := E) (d := d + 4) (Lg := Lg) (s := 1) hX (hR.tn (s := 1) (q := some (19, hs_tn σ))) (by decide) hB2 hO hp1 hq1
    rw [hp2, hq2] at hch
    have hO3 := hO.chg hp (show q < hs_n σ by omega)
    refine hg_cVv d_D_doors_96 l_D_134 rfl rfl (hX.lt (n := 3) ⟨by decide, by decide⟩ rfl (by omega)) rfl (Nat.le_of_ble_eq_true rfl) (hch) rfl ?_
    rintro _ ⟨I3, rfl, hC3, hf3⟩
    refine hg_aload0 d_D_doors_99 ?_
    refine hg_getR d_D_doors_100 f_D_73 rfl rfl (hX.lt (n := 1) ⟨by decide, by decide⟩ rfl (by omega)) (hR.D (j := 1) (q := (1, 1)) rfl) ?_
    refine hg_iload1 d_D_doors_103 ?_
    refine hg_cVv d_D_doors_104 l_D_188 rfl rfl (hX.lt (n := 3) ⟨by decide, by decide⟩ rfl (by omega)) rfl (Nat.le_of_ble_eq_true rfl) (m_S_thursdays (s := 1) (n := m) hX hR.tn (by decide) hC3 hO3 ((hW.fr hfB2).fr hf3) (by show hs_wk σ + m < 2 ^ 31; omega)) rfl ?_
    rintro _ ⟨I4, rfl, hC4, hf4⟩
    obtain ⟨hO4, hw4, hn4, -⟩ := hs_th_all (tw := tw) hO3 m
    have hcl4 := hO4.2.2.2.2.2.2.1
    have hwk3 : hs_wk (hs_chg σ p q) = hs_wk σ := rfl
    refine hg_aload0 d_D_doors_107 ?_
    refine hg_getR d_D_doors_108 f_D_73 rfl rfl (hX.lt (n := 1) ⟨by decide, by decide⟩ rfl (by omega)) (hR.D (j := 1) (q := (1, 1)) rfl) ?_
    refine hg_getI d_D_doors_111 f_D_170 rfl rfl (hX.lt (n := 3) ⟨by decide, by decide⟩ rfl (by omega)) ?_
    refine hg_eq1 (y := nI (hs_cl (hs_th tw (hs_chg σ p q) m))) (hC4.2.2.2.1) ?_
    refine hg_iload2 d_D_doors_114 ?_
    refine hg_icmp_ge (tgt := 135) d_D_doors_115 (by decide) (fun hle => ?_) (fun hle => ?_)
    · refine hg_iinc5 (v := nI (q + 1)) d_D_doors_135 rfl (nI_add _ _) ?_
      refine hg_goto (tgt := 65) d_D_doors_138 (by decide) ?_
      have he0 : sp_d0 tw σ m p q a = a := if_neg (by rw [nI_leI (by omega) (by omega)] at hle; omega)
      exact ih (q + 1) (a) I4 _ (by omega) (by omega) (by first | assumption | (show hs_cl _ < 2 ^ 31; omega)) ((hf4.tr (hf3.tr hfB2)).sc.tr hs) (hg_rx.u3.tr hr) (by have := he; unfold sp_d2 at this; rwa [he0] at this)
    · refine hg_aload0 d_D_doors_118 ?_
      refine hg_getR d_D_doors_119 f_D_73 rfl rfl (hX.lt (n := 1) ⟨by decide, by decide⟩ rfl (by omega)) (hR.D (j := 1) (q := (1, 1)) rfl) ?_
      refine hg_getI d_D_doors_122 f_D_170 rfl rfl (hX.lt (n := 3) ⟨by decide, by decide⟩ rfl (by omega)) ?_
      refine hg_eq1 (y := nI (hs_cl (hs_th tw (hs_chg σ p q) m))) (hC4.2.2.2.1) ?_
      refine hg_istore2 d_D_doors_125 rfl ?_
      refine hg_bipush (v := 10) d_D_doors_126 (by decide) ?_
      refine hg_iload4 d_D_doors_128 ?_
      refine hg_imul d_D_doors_130 ?_
      refine hg_eq1 (y := nI (10 * p)) (pk_mul _ _) ?_
      refine hg_iload5 d_D_doors_131 ?_
      refine hg_iadd d_D_doors_133 ?_
      refine hg_eq1 (y := nI ((10 * p) + q)) (nI_add _ _) ?_
      refine hg_istore3 d_D_doors_134 rfl ?_
      refine hg_iinc5 (v := nI (q + 1)) d_D_doors_135 rfl (nI_add _ _) ?_
      refine hg_goto (tgt := 65) d_D_doors_138 (by decide) ?_
      have he0 : sp_d0 tw σ m p q a = (hs_cl (hs_th tw (hs_chg σ p q) m), nI (10 * p + q)) := if_pos (by rw [nI_leI (by omega) (by omega)] at hle; omega)
      exact ih (q + 1) (hs_cl (hs_th tw (hs_chg σ p q) m), nI (10 * p + q)) I4 _ (by omega) (by omega) (by first | assumption | (show hs_cl _ < 2 ^ 31; omega)) ((hf4.tr (hf3.tr hfB2)).sc.tr hs) (hg_rx.u3.tr hr) (by have := he; unfold sp_d2 at this; rwa [he0] at this)
theorem m_D_doors_loop {m : Nat} (hE : hq_E T tw σ I Rf X) (hw : hs_wk σ ≤ 9999) (hm : m ≤ 20) : ∀ (k p : Nat) (a : Nat × Int32) (a5 : Option Value) (I1 : Nat → Nat → Nat → Int32) (Rf1 : Nat → Nat → Nat → Option (Nat × Nat)), p + k = hs_n σ → a.1 < 2 ^ 31 → hg_sc I1 I → hg_rx Rf1 Rf → (sp_d1 tw σ m k p a).2 = sp_doors tw σ (nI m) → hg_WP l E (d + 6) Y_D_doors 0 0 47 [some (.ref (hg_ad E 0 0)), some (.int (nI m)), some (.int (nI a.1)), some (.int a.2), some (.int (nI p)), a5] [] (I1, Lg, Rf1, X) (hg_i (fun v M' => hq_A v (sp_doors tw σ (nI m)) I Lg Rf X M')) := by
  intro k
  induction k with
  | zero =>
    intro p a a5 I1 Rf1 hpk ha hs hr he
    obtain ⟨hX, hR, hC1, hO, hW⟩ := hE.sc hs hr
    obtain rfl : p = hs_n σ := by omega
    have hn6 := hO.1
    refine hg_iload4 d_D_doors_47 ?_
    refine hg_aload0 d_D_doors_49 ?_
    refine hg_getR d_D_doors_50 f_D_69 rfl rfl (hX.lt (n := 1) ⟨by decide, by decide⟩ rfl (by omega)) (hR.D (j := 0) (q := (1, 0)) rfl) ?_
    refine hg_getI d_D_doors_53 f_D_185 rfl rfl (hX.lt (n := 3) ⟨by decide, by decide⟩ rfl (by omega)) ?_
    refine hg_eq1 (y := nI (hs_n σ)) (hC1.1) ?_
    refine hg_icmp_ge (tgt := 147) d_D_doors_56 (by decide) (fun h_1 => ?_) (fun h_1 => absurd (Int32.le_refl _) h_1)
    refine hg_iload3 d_D_doors_147 ?_
    refine hg_ireturn d_D_doors_148 rfl rfl ?_
    exact ⟨he, I1, Rf1, rfl, hs, hr⟩
  | succ k ih =>
    intro p a a5 I1 Rf1 hpk ha hs hr he
    obtain ⟨hX, hR, hC1, hO, hW⟩ := hE.sc hs hr
    have hn6 := hO.1
    refine hg_iload4 d_D_doors_47 ?_
    refine hg_aload0 d_D_doors_49 ?_
    refine hg_getR d_D_doors_50 f_D_69 rfl rfl (hX.lt (n := 1) ⟨by decide, by decide⟩ rfl (by omega)) (hR.D (j := 0) (q := (1, 0)) rfl) ?_
    refine hg_getI d_D_doors_53 f_D_185 rfl rfl (hX.lt (n := 3) ⟨by decide, by decide⟩ rfl (by omega)) ?_
    refine hg_eq1 (y := nI (hs_n σ)) (hC1.1) ?_
    refine hg_icmp_ge (tgt := 147) d_D_doors_56 (by decide) (fun h_2 => absurd h_2 (nI_ge (by omega) (by omega))) (fun h_2 => ?_)
    refine hg_iload4 d_D_doors_59 ?_
    refine hg_iconst (v := 1) d_D_doors_61 (by decide) ?_
    refine hg_iadd d_D_doors_62 ?_
    refine hg_eq1 (y := nI (p + 1)) (nI_add _ _) ?_
    refine hg_istore5 d_D_doors_63 rfl ?_
    exact m_D_doors_in hE hw hm (by omega) (sp_d2 tw σ m p k (p + 1) a) (fun I2 Rf2 hs2 hr2 hr1 => ih (p + 1) _ _ I2 Rf2 (by omega) hr1 hs2 hr2 he) k (p + 1) a I1 Rf1 (by omega) (by omega) ha hs hr rfl
theorem hg_lo1 {n : Nat} {x : Int32} (h : x < 1) : hs_ix n x = none ∨ hs_ix n x = some 0 := by
  unfold hs_ix
  have h0 : x.toNatClampNeg = 0 := by
    have := Int32.lt_iff_toInt_lt.mp h
    rw [show (1 : Int32).toInt = 1 from rfl] at this
    rw [← Int32.toNat_toInt]; omega
  split
  · right; rw [h0]
  · left; rfl
theorem hg_in1 {x : Int32} {b : Nat} (hb : b < 2147483647) (h1 : ¬ x < 1) (h2 : x ≤ nI b) : ∃ j : Nat, 0 < j ∧ j ≤ b ∧ x = nI j := by
  have h0 : ¬ x < 0 := fun z => h1 (Int32.lt_trans z (by decide))
  obtain ⟨j, hj, rfl⟩ := hg_isin2 (by omega) h0 (fun z => Int32.lt_irrefl (Int32.lt_of_le_of_lt h2 z))
  refine ⟨j, ?_, hj, rfl⟩
  rcases Nat.eq_zero_or_pos j with z | z
  · subst z; exact absurd (by decide : nI 0 < 1) h1
  · exact z
theorem m_D_doors {n : Int32} (hE : hq_E T tw σ I Rf X) (hw : hs_wk σ ≤ 9999) : hg_MC l E (d + 7) Y_D_doors 0 0 [.ref (hg_ad E 0 0), .int n] (I, Lg, Rf, X) (hg_i (fun v M' => hq_A v (sp_doors tw σ n) I Lg Rf X M')) := by
  obtain ⟨hX, hR, hC, hO, hW⟩ := id hE
  have hn6 := hO.1
  refine hg_mc k_D_doors (Nat.le_of_ble_eq_true rfl) ?_
  show hg_WP l E _ Y_D_doors 0 0 0 [some (.ref (hg_ad E 0 0)), some (.int n), none, none, none, none] [] (I, Lg, Rf, X) _
  refine hg_iload1 d_D_doors_0 ?_
  refine hg_iconst (v := 1) d_D_doors_1 (by decide) ?_
  refine hg_icmp_lt (tgt := 11) d_D_doors_2 (by decide) (fun h1 => ?_) (fun h1 => ?_)
  · have hz : hs_ix 21 n = none ∨ hs_ix 21 n = some 0 := hg_lo1 h1
    refine hg_bipush (v := (-2)) d_D_doors_11 (by decide) ?_
    refine hg_ireturn d_D_doors_13 rfl rfl ?_
    refine ⟨?_, I, Rf, rfl, hg_sc.rf, hg_rx.rf⟩
    unfold sp_doors; rcases hz with z | z <;> rw [z] <;> rfl
  · refine hg_iload1 d_D_doors_5 ?_
    refine hg_bipush (v := 20) d_D_doors_6 (by decide) ?_
    refine hg_icmp_le (tgt := 14) d_D_doors_8 (by decide) (fun h2 => ?_) (fun h2 => ?_)
    · obtain ⟨m, hm0, hm, rfl⟩ := hg_in1 (b := 20) (by decide) h1 h2
      have hsp : sp_doors tw σ (nI m) = (sp_d1 tw σ m (hs_n σ) 0 (hs_cl (hs_th tw σ m), -5)).2 := by unfold sp_doors; rw [hs_ix_s (by omega) (by decide)]; exact if_neg (by omega)
      refine hg_aload0 d_D_doors_14 ?_
      refine hg_getR d_D_doors_15 f_D_73 rfl rfl (hX.lt (n := 1) ⟨by decide, by decide⟩ rfl (by omega)) (hR.D (j := 1) (q := (1, 1)) rfl) ?_
      refine hg_aload0 d_D_doors_18 ?_
      refine hg_getR d_D_doors_19 f_D_69 rfl rfl (hX.lt (n := 1) ⟨by decide, by decide⟩ rfl (by omega)) (hR.D (j := 0) (q := (1, 0)) rfl) ?_
      refine hg_cVv d_D_doors_22 l_D_191 rfl rfl (hX.lt (n := 3) ⟨by decide, by decide⟩ rfl (by omega)) rfl (Nat.le_of_ble_eq_true rfl) (m_S_become (s := 1) (s2 := 0) hX hR (by decide) (by decide) (by decide) hC hO) rfl ?_
      rintro _ ⟨I1, rfl, hB1, hfB1⟩
      refine hg_aload0 d_D_doors_25 ?_
      refine hg_getR d_D_doors_26 f_D_73 rfl rfl (hX.lt (n := 1) ⟨by decide, by decide⟩ rfl (by omega)) (hR.D (j := 1) (q := (1, 1)) rfl) ?_
      refine hg_iload1 d_D_doors_29 ?_
      refine hg_cVv d_D_doors_30 l_D_188 rfl rfl (hX.lt (n := 3) ⟨by decide, by decide⟩ rfl (by omega)) rfl (Nat.le_of_ble_eq_true rfl) (m_S_thursdays (s := 1) (n := m) hX hR.tn (by decide) hB1 hO (hW.fr hfB1) (by omega)) rfl ?_
      rintro _ ⟨I2, rfl, hC2, hf2⟩
      obtain ⟨hO2, hw2, hn2, -⟩ := hs_th_all (tw := tw) hO m
      have hcl2 := hO2.2.2.2.2.2.2.1
      refine hg_aload0 d_D_doors_33 ?_
      refine hg_getR d_D_doors_34 f_D_73 rfl rfl (hX.lt (n := 1) ⟨by decide, by decide⟩ rfl (by omega)) (hR.D (j := 1) (q := (1, 1)) rfl) ?_
      refine hg_getI d_D_doors_37 f_D_170 rfl rfl (hX.lt (n := 3) ⟨by decide, by decide⟩ rfl (by omega)) ?_
      refine hg_eq1 (y := nI (hs_cl (hs_th tw σ m))) (hC2.2.2.2.1) ?_
      refine hg_istore2 d_D_doors_40 rfl ?_
      refine hg_bipush (v := (-5)) d_D_doors_41 (by decide) ?_
      refine hg_istore3 d_D_doors_43 rfl ?_
      refine hg_iconst (v := 0) d_D_doors_44 (by decide) ?_
      refine hg_istore4 d_D_doors_45 rfl ?_
      exact m_D_doors_loop hE hw hm (hs_n σ) 0 (hs_cl (hs_th tw σ m), -5) none I2 _ (by omega) (by show hs_cl _ < 2 ^ 31; omega) (hf2.tr hfB1).sc hg_rx.u3 hsp.symm
    · have hz : hs_ix 21 n = none ∨ hs_ix 21 n = some 0 := Or.inl (hs_ix_n (fun ⟨j, hj, e⟩ => h2 (by rw [e]; exact (nI_leI (b := 20) (by omega) (by decide)).mpr (by omega))))
      refine hg_bipush (v := (-2)) d_D_doors_11 (by decide) ?_
      refine hg_ireturn d_D_doors_13 rfl rfl ?_
      refine ⟨?_, I, Rf, rfl, hg_sc.rf, hg_rx.rf⟩
      unfold sp_doors; rcases hz with z | z <;> rw [z] <;> rfl

end M9
