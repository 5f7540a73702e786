/-! the model: odds, mean, ends -/
section M40
variable {l : Launch} {E : hg_E} {d T : Nat}
variable {I : Nat → Nat → Nat → Int32} {Lg : Nat → Nat → Nat → Int64} {Rf : Nat → Nat → Nat → Option (Nat × Nat)} {X : Nat × (Nat → Nat) × (Nat → Nat → Nat)}
variable {I' I1 : Nat → Nat → Nat → Int32} {Lg' : Nat → Nat → Nat → Int64} {σ τ : hs_S} {tw : hs_W} {a0 a2 a4 : hs_L} {G : hs_G}
theorem m_M_odds_loop {h q : Nat} {Q : Option Value → hg_M → Prop} (hX : hg_XS T X) (hR : hg_SR T Rf) (hO : hs_ok T σ) (hw : hs_wk σ ≤ 9999) (hT : hs_MT T tw I) (hb : hs_Lb σ a0 a2 a4) (hh : h < hs_n σ) (K : ∀ (a5 : Option Value) (I2 : Nat → Nat → Nat → Int32), hs_MG σ a0 a2 a4 I2 → hm_s I2 I → hg_WP l E (d + 7) Y_M_odds 0 0 78 [some (.ref (hg_ad E 21 0)), some (.int (nI h)), some (.int (nI q)), some (.int (nI (hs_cnt (fun k => hs_B (hs_ho tw (hs_shv σ k 6 1) = some h)) (hs_n σ)))), some (.int (nI (hs_n σ))), a5] [] (I2, Lg, Rf, X) (Q)) : ∀ (k i : Nat) (a5 : Option Value) (I1 : Nat → Nat → Nat → Int32), i + k = hs_n σ → hs_MG σ a0 a2 a4 I1 → hm_s I1 I → hg_WP l E (d + 7) Y_M_odds 0 0 26 [some (.ref (hg_ad E 21 0)), some (.int (nI h)), some (.int (nI q)), some (.int (nI (hs_cnt (fun k => hs_B (hs_ho tw (hs_shv σ k 6 1) = some h)) i))), some (.int (nI i)), a5] [] (I1, Lg, Rf, X) (Q) := by
  have hn6 := hO.1
  intro k
  induction k with
  | zero =>
    intro i a5 I1 hik hg hs
    obtain rfl : i = hs_n σ := by omega
    refine hg_iload4 d_M_odds_26 ?_
    refine hg_aload0 d_M_odds_28 ?_
    refine hg_getI d_M_odds_29 f_M_108 rfl rfl (hX.lt (n := 1) ⟨by decide, by decide⟩ rfl (by omega)) ?_
    refine hg_eq1 (y := nI (hs_n σ)) (hg.1.1) ?_
    refine hg_icmp_ge (tgt := 78) d_M_odds_32 (by decide) (fun h_1 => ?_) (fun h_1 => absurd (Int32.le_refl _) h_1)
    exact K _ I1 hg hs
  | succ k ih =>
    intro i a5 I1 hik hg hs
    have hi : i < hs_n σ := by omega
    refine hg_iload4 d_M_odds_26 ?_
    refine hg_aload0 d_M_odds_28 ?_
    refine hg_getI d_M_odds_29 f_M_108 rfl rfl (hX.lt (n := 1) ⟨by decide, by decide⟩ rfl (by omega)) ?_
    refine hg_eq1 (y := nI (hs_n σ)) (hg.1.1) ?_
    refine hg_icmp_ge (tgt := 78) d_M_odds_32 (by decide) (fun h_2 => absurd h_2 (nI_ge (by omega) (by omega))) (fun h_2 => ?_)
    refine hg_aload0 d_M_odds_35 ?_
    refine hg_getR d_M_odds_36 f_M_30 rfl rfl (hX.lt (n := 1) ⟨by decide, by decide⟩ rfl (by omega)) (hR.m (j := 7) (q := (22, 6)) rfl) ?_
    refine hg_iload4 d_M_odds_39 ?_
    refine hg_iald_n (j := i) d_M_odds_41 rfl rfl (hX.lt (n := 28) ⟨by decide, by decide⟩ rfl (by omega)) (hX.jn (n := 6) (by decide) rfl (by omega)) ?_
    refine hg_eq1 (y := hs_hv σ i 6) (hg.1.2.2.2.2.2.2.2.1 i 6 (by omega) (by decide)) ?_
    refine hg_istore5 d_M_odds_42 rfl ?_
    refine hg_aload0 d_M_odds_44 ?_
    refine hg_getR d_M_odds_45 f_M_30 rfl rfl (hX.lt (n := 1) ⟨by decide, by decide⟩ rfl (by omega)) (hR.m (j := 7) (q := (22, 6)) rfl) ?_
    refine hg_iload4 d_M_odds_48 ?_
    refine hg_iconst (v := 1) d_M_odds_50 (by decide) ?_
    refine hg_iast_n (j := i) d_M_odds_51 rfl rfl (hX.lt (n := 28) ⟨by decide, by decide⟩ rfl (by omega)) (hX.jn (n := 6) (by decide) rfl (by omega)) ?_
    refine hg_aload0 d_M_odds_52 ?_
    have hO2 : hs_ok T (hs_shv σ i 6 1) := hO.shv (by decide) (by decide) (fun _ => Or.inr rfl)
    have hM2 : hs_MS (hs_shv σ i 6 1) (hg_u3 I1 22 6 i 1) := hg.1.shv (by decide)
    have hs2 : hm_s (hg_u3 I1 22 6 i 1) I := (hm_n.rf.u22 (by decide)).s.tr hs
    refine hg_cVi d_M_odds_53 l_M_254 rfl rfl (hX.lt (n := 1) ⟨by decide, by decide⟩ rfl (by omega)) rfl (Nat.le_of_ble_eq_true rfl) (m_M_host (tw := tw) hX hR hM2 hO2 (hT.s hs2) (by show hs_wk σ ≤ 99999; omega)) rfl ?_
    rintro _ _ ⟨rfl, I3, rfl, hq3⟩
    refine hg_iload1 d_M_odds_56 ?_
    refine hg_icmp_ne (tgt := 63) d_M_odds_57 (by decide) (fun hho => ?_) (fun hho => ?_)
    · refine hg_aload0 d_M_odds_63 ?_
      refine hg_getR d_M_odds_64 f_M_30 rfl rfl (hX.lt (n := 1) ⟨by decide, by decide⟩ rfl (by omega)) (hR.m (j := 7) (q := (22, 6)) rfl) ?_
      refine hg_iload4 d_M_odds_67 ?_
      refine hg_iload5 d_M_odds_69 ?_
      refine hg_iast_n (j := i) d_M_odds_71 rfl rfl (hX.lt (n := 28) ⟨by decide, by decide⟩ rfl (by omega)) (hX.jn (n := 6) (by decide) rfl (by omega)) ?_
      refine hg_iinc4 (v := nI (i + 1)) d_M_odds_72 rfl (nI_add _ _) ?_
      refine hg_goto (tgt := 26) d_M_odds_75 (by decide) ?_
      have hx : ∀ x, hs_ho tw (hs_shv σ i 6 1) = some x → x < 6 := fun x hx => by have := hs_ho_lt hO2 hx; have : x < hs_n σ := this; omega
      have hM4 : hs_MS (hs_shv (hs_shv σ i 6 1) i 6 (hs_hv σ i 6)) (hg_u3 I3 22 6 i (hs_hv σ i 6)) := (hM2.e hq3).shv (by decide)
      have hM5 : hs_MS σ (hg_u3 I3 22 6 i (hs_hv σ i 6)) := hs_MS.hq (σ := σ) (w2 := hs_hv (hs_shv (hs_shv σ i 6 1) i 6 (hs_hv σ i 6))) hM4 (fun p f => by show (if p = i ∧ f = 6 then _ else (if p = i ∧ f = 6 then _ else hs_hv σ p f)) = _; split; (rename_i z; rw [z.1, z.2]); rfl)
      have hfr : hm_n (hg_u3 I3 22 6 i (hs_hv σ i 6)) I1 := (hq3.t.n.tr (hm_n.rf.u22 (by decide))).u22 (by decide)
      have := ih (i + 1) (some (.int (hs_hv σ i 6))) (hg_u3 I3 22 6 i (hs_hv σ i 6)) (by omega) (hg.n hM5 hfr) (hfr.s.tr hs)
      rwa [show hs_cnt (fun k => hs_B (hs_ho tw (hs_shv σ k 6 1) = some h)) (i + 1) = hs_cnt (fun k => hs_B (hs_ho tw (hs_shv σ k 6 1) = some h)) i from if_neg (fun z => hho ((hs_h5_eq hx (by omega)).mpr (hs_B_t.mp z)))] at this
    · replace hho := Decidable.not_not.mp hho
      refine hg_iinc3 (v := nI ((hs_cnt (fun k => hs_B (hs_ho tw (hs_shv σ k 6 1) = some h)) i) + 1)) d_M_odds_60 rfl (nI_add _ _) ?_
      refine hg_aload0 d_M_odds_63 ?_
      refine hg_getR d_M_odds_64 f_M_30 rfl rfl (hX.lt (n := 1) ⟨by decide, by decide⟩ rfl (by omega)) (hR.m (j := 7) (q := (22, 6)) rfl) ?_
      refine hg_iload4 d_M_odds_67 ?_
      refine hg_iload5 d_M_odds_69 ?_
      refine hg_iast_n (j := i) d_M_odds_71 rfl rfl (hX.lt (n := 28) ⟨by decide, by decide⟩ rfl (by omega)) (hX.jn (n := 6) (by decide) rfl (by omega)) ?_
      refine hg_iinc4 (v := nI (i + 1)) d_M_odds_72 rfl (nI_add _ _) ?_
      refine hg_goto (tgt := 26) d_M_odds_75 (by decide) ?_
      have hx : ∀ x, hs_ho tw (hs_shv σ i 6 1) = some x → x < 6 := fun x hx => by have := hs_ho_lt hO2 hx; have : x < hs_n σ := this; omega
      have hM4 : hs_MS (hs_shv (hs_shv σ i 6 1) i 6 (hs_hv σ i 6)) (hg_u3 I3 22 6 i (hs_hv σ i 6)) := (hM2.e hq3).shv (by decide)
      have hM5 : hs_MS σ (hg_u3 I3 22 6 i (hs_hv σ i 6)) := hs_MS.hq (σ := σ) (w2 := hs_hv (hs_shv (hs_shv σ i 6 1) i 6 (hs_hv σ i 6))) hM4 (fun p f => by show (if p = i ∧ f = 6 then _ else (if p = i ∧ f = 6 then _ else hs_hv σ p f)) = _; split; (rename_i z; rw [z.1, z.2]); rfl)
      have hfr : hm_n (hg_u3 I3 22 6 i (hs_hv σ i 6)) I1 := (hq3.t.n.tr (hm_n.rf.u22 (by decide))).u22 (by decide)
      have := ih (i + 1) (some (.int (hs_hv σ i 6))) (hg_u3 I3 22 6 i (hs_hv σ i 6)) (by omega) (hg.n hM5 hfr) (hfr.s.tr hs)
      rwa [show hs_cnt (fun k => hs_B (hs_ho tw (hs_shv σ k 6 1) = some h)) (i + 1) = hs_cnt (fun k => hs_B (hs_ho tw (hs_shv σ k 6 1) = some h)) i + 1 from if_pos (hs_B_t.mpr ((hs_h5_eq hx (by omega)).mp hho))] at this
theorem m_M_odds {x p : Int32} (hX : hg_XS (gT G) X) (hR : hg_SR (gT G) Rf) (hM0 : hs_MR G I Lg) (hG : hs_gok G) : hg_MC l E (d + 8) Y_M_odds 0 0 [.ref (hg_ad E 21 0), .int x, .int p] (I, Lg, Rf, X) (hg_l (fun v M' => hs_MP v (sp_odds (gW G) (gN G) x p) G I Lg Rf X M')) := by
  have hM := hM0.1.1
  have hO := hG.1
  have hn6 := hO.1
  have hT := hM0.2.2.2.2.2.2.2
  have hw := hG.2.1
  have hL0 := hG.2.2.2.1 0 (by decide)
  have hL2 := hG.2.2.2.1 2 (by decide)
  have hL4 := hG.2.2.2.1 4 (by decide)
  replace hL0 : (gL G 0).1 ≤ 5 := hL0
  replace hL2 : (gL G 2).1 ≤ 10 := hL2
  replace hL4 : (gL G 4).1 ≤ 8 := hL4
  have hLb : hs_Lb (gN G) (gL G 0) (gL G 2) (gL G 4) := ⟨hn6, hL0, hL2, hL4⟩
  refine hg_mc k_M_odds (Nat.le_of_ble_eq_true rfl) ?_
  show hg_WP l E _ Y_M_odds 0 0 0 [some (.ref (hg_ad E 21 0)), some (.int x), some (.int p), none, none, none] [] (I, Lg, Rf, X) _
  refine hg_aload0 d_M_odds_0 ?_
  refine hg_iload1 d_M_odds_1 ?_
  refine hg_cVi d_M_odds_2 l_M_115 rfl rfl (hX.lt (n := 1) ⟨by decide, by decide⟩ rfl (by omega)) rfl (Nat.le_of_ble_eq_true rfl) (m_M_isOne hX hM.1 hn6) rfl ?_
  rintro _ _ ⟨⟨hha, rfl⟩ | ⟨hha, rfl⟩, rfl⟩
  · obtain ⟨h, hh, eh⟩ := hha
    have iha : hs_ix (hs_n (gN G)) x = some h := by rw [eh]; exact hs_ix_s hh (by omega)
    subst eh
    show hg_WP l E _ Y_M_odds 0 0 5 [some (.ref (hg_ad E 21 0)), some (.int (nI h)), some (.int p), none, none, none] [.int 1] (I, Lg, Rf, X) _
    refine hg_if_eq (tgt := 17) d_M_odds_5 (by decide) (fun h_1 => absurd h_1 (by decide)) (fun h_1 => ?_)
    refine hg_iload2 d_M_odds_8 ?_
    refine hg_iconst (v := 0) d_M_odds_9 (by decide) ?_
    refine hg_iconst (v := 1) d_M_odds_10 (by decide) ?_
    refine hg_cSi d_M_odds_11 l_M_111 rfl (Nat.le_of_ble_eq_true rfl) (m_M_in0 (b := 1) (by decide)) rfl ?_
    rintro _ _ ⟨⟨hhb, rfl⟩ | ⟨hhb, rfl⟩, rfl⟩
    · obtain ⟨q, hq, eq⟩ := hhb
      have ihb : hs_ix 2 p = some q := by rw [eq]; exact hs_ix_s (by omega) (by decide)
      subst eq
      show hg_WP l E _ Y_M_odds 0 0 14 [some (.ref (hg_ad E 21 0)), some (.int (nI h)), some (.int (nI q)), none, none, none] [.int 1] (I, Lg, Rf, X) _
      refine hg_if_ne (tgt := 21) d_M_odds_14 (by decide) (fun h_2 => ?_) (fun h_2 => absurd (by decide) h_2)
      refine hg_iconst (v := 0) d_M_odds_21 (by decide) ?_
      refine hg_istore3 d_M_odds_22 rfl ?_
      refine hg_iconst (v := 0) d_M_odds_23 (by decide) ?_
      refine hg_istore4 d_M_odds_24 rfl ?_
      refine m_M_odds_loop (a0 := gL G 0) (a2 := gL G 2) (a4 := gL G 4) hX hR hO hw hT hLb hh ?_ (hs_n (gN G)) 0 _ I (by omega) hM0.1 hm_s.rf
      intro a5 I2 hg2 hs2
      have hcl := hs_cnt_le (fun k => hs_B (hs_ho (gW G) (hs_shv (gN G) k 6 1) = some h)) (hs_n (gN G))
      refine hg_iload3 d_M_odds_78 ?_
      refine hg_i2l d_M_odds_79 ?_
      refine hg_aload0 d_M_odds_80 ?_
      refine hg_getI d_M_odds_81 f_M_108 rfl rfl (hX.lt (n := 1) ⟨by decide, by decide⟩ rfl (by omega)) ?_
      refine hg_eq1 (y := nI (hs_n (gN G))) (hg2.1.1) ?_
      refine hg_i2l d_M_odds_84 ?_
      refine hg_iload2 d_M_odds_85 ?_
      rw [nI_l (n := hs_cnt (fun k => hs_B (hs_ho (gW G) (hs_shv (gN G) k 6 1) = some h)) (hs_n (gN G))) (by omega), nI_l (n := hs_n (gN G)) (by omega)]
      refine hg_cSl d_M_odds_86 l_M_290 rfl (Nat.le_of_ble_eq_true rfl) (m_M_part (a := hs_cnt (fun k => hs_B (hs_ho (gW G) (hs_shv (gN G) k 6 1) = some h)) (hs_n (gN G))) (b := hs_n (gN G)) (by omega) (by omega) (Or.inr (by omega))) rfl ?_
      rintro _ _ ⟨rfl, rfl⟩
      refine hg_lreturn d_M_odds_89 rfl ?_
      refine ⟨?_, I2, Lg, rfl, hM0.Z hg2 hs2, hs2.lo, fun _ _ => rfl⟩
      rw [hs_fr_i (by omega)]; unfold sp_odds; rw [iha, ihb]
    · have ihb : hs_ix 2 p = none := hs_ix_n2 hhb
      refine hg_if_ne (tgt := 21) d_M_odds_14 (by decide) (fun h_3 => absurd h_3 (by decide)) (fun h_3 => ?_)
      refine hg_ldc2 d_M_odds_17 c_M_288 ?_
      refine hg_lreturn d_M_odds_20 rfl ?_
      refine ⟨?_, I, Lg, rfl, hM0, fun _ _ => rfl, fun _ _ => rfl⟩
      simp [sp_odds, iha, ihb]
  · have iha : hs_ix (hs_n (gN G)) x = none := hs_ix_n hha
    refine hg_if_eq (tgt := 17) d_M_odds_5 (by decide) (fun h_4 => ?_) (fun h_4 => absurd (by decide) h_4)
    refine hg_ldc2 d_M_odds_17 c_M_288 ?_
    refine hg_lreturn d_M_odds_20 rfl ?_
    refine ⟨?_, I, Lg, rfl, hM0, fun _ _ => rfl, fun _ _ => rfl⟩
    simp [sp_odds, iha]

theorem m_M_mean_go {m : Nat} {x : Int32} {none4 : Option Value} {Q : Option Value → hg_M → Prop} (hX : hg_XS T X) (hR : hg_SR T Rf) (hO : hs_ok T σ) (hw : hs_wk σ ≤ 9999) (hT : hs_MT T tw I) (hm : m ≤ 60) (K : ∀ I2 : Nat → Nat → Nat → Int32, hs_MS (hs_th tw σ m) I2 → hm_t I2 I → hg_WP l E (d + 7) Y_M_mean 0 0 55 [some (.ref (hg_ad E 21 0)), some (.int (nI m)), some (.int x), some (.int (nI m)), none4] [] (I2, Lg, Rf, X) (Q)) : ∀ (k i : Nat) (I1 : Nat → Nat → Nat → Int32), i + k = m → hs_MS (hs_th tw σ i) I1 → hm_t I1 I → hg_WP l E (d + 7) Y_M_mean 0 0 40 [some (.ref (hg_ad E 21 0)), some (.int (nI m)), some (.int x), some (.int (nI i)), none4] [] (I1, Lg, Rf, X) (Q) := by
  intro k
  induction k with
  | zero =>
    intro i I1 hik hM ht
    obtain rfl : i = m := by omega
    refine hg_iload3 d_M_mean_40 ?_
    refine hg_iload1 d_M_mean_41 ?_
    refine hg_icmp_ge (tgt := 55) d_M_mean_42 (by decide) (fun h_1 => ?_) (fun h_1 => absurd (Int32.le_refl _) h_1)
    exact K I1 hM ht
  | succ k ih =>
    intro i I1 hik hM ht
    obtain ⟨hO2, hw2, hn2, hs2⟩ := hs_th_all (tw := tw) hO i
    refine hg_iload3 d_M_mean_40 ?_
    refine hg_iload1 d_M_mean_41 ?_
    refine hg_icmp_ge (tgt := 55) d_M_mean_42 (by decide) (fun h_2 => absurd h_2 (nI_ge (by omega) (by omega))) (fun h_2 => ?_)
    refine hg_aload0 d_M_mean_45 ?_
    refine hg_cVv d_M_mean_46 l_M_257 rfl rfl (hX.lt (n := 1) ⟨by decide, by decide⟩ rfl (by omega)) rfl (Nat.le_of_ble_eq_true rfl) (m_M_goesThursday hX hR hM hO2 (hT.t ht) (by omega)) rfl ?_
    rintro _ ⟨I2, rfl, hM2, ht2⟩
    refine hg_iinc3 (v := nI (i + 1)) d_M_mean_49 rfl (nI_add _ _) ?_
    refine hg_goto (tgt := 40) d_M_mean_52 (by decide) ?_
    exact ih (i + 1) I2 (by omega) hM2 (ht2.tr ht)
set_option maxHeartbeats 400000 in
theorem m_M_mean {x p : Int32} (hX : hg_XS (gT G) X) (hR : hg_SR (gT G) Rf) (hM0 : hs_MR G I Lg) (hG : hs_gok G) : hg_MC l E (d + 8) Y_M_mean 0 0 [.ref (hg_ad E 21 0), .int x, .int p] (I, Lg, Rf, X) (hg_l (fun v M' => hs_MP v (sp_mean (gW G) (gN G) x p) G I Lg Rf X M')) := by
  have hM := hM0.1.1
  have hO := hG.1
  have hn6 := hO.1
  have hT := hM0.2.2.2.2.2.2.2
  have hw := hG.2.1
  have hL0 := hG.2.2.2.1 0 (by decide)
  have hL2 := hG.2.2.2.1 2 (by decide)
  have hL4 := hG.2.2.2.1 4 (by decide)
  replace hL0 : (gL G 0).1 ≤ 5 := hL0
  replace hL2 : (gL G 2).1 ≤ 10 := hL2
  replace hL4 : (gL G 4).1 ≤ 8 := hL4
  have hLb : hs_Lb (gN G) (gL G 0) (gL G 2) (gL G 4) := ⟨hn6, hL0, hL2, hL4⟩
  refine hg_mc k_M_mean (Nat.le_of_ble_eq_true rfl) ?_
  show hg_WP l E _ Y_M_mean 0 0 0 [some (.ref (hg_ad E 21 0)), some (.int x), some (.int p), none, none] [] (I, Lg, Rf, X) _
  refine hg_iload1 d_M_mean_0 ?_
  refine hg_iconst (v := 0) d_M_mean_1 (by decide) ?_
  refine hg_bipush (v := 60) d_M_mean_2 (by decide) ?_
  refine hg_cSi d_M_mean_4 l_M_111 rfl (Nat.le_of_ble_eq_true rfl) (m_M_in0 (b := 60) (by decide)) rfl ?_
  rintro _ _ ⟨⟨hha, rfl⟩ | ⟨hha, rfl⟩, rfl⟩
  · obtain ⟨m, hm, em⟩ := hha
    have iha : hs_ix 61 x = some m := by rw [em]; exact hs_ix_s (by omega) (by decide)
    subst em
    show hg_WP l E _ Y_M_mean 0 0 7 [some (.ref (hg_ad E 21 0)), some (.int (nI m)), some (.int p), none, none] [.int 1] (I, Lg, Rf, X) _
    refine hg_if_eq (tgt := 26) d_M_mean_7 (by decide) (fun h_1 => absurd h_1 (by decide)) (fun h_1 => ?_)
    refine hg_iload2 d_M_mean_10 ?_
    refine hg_iconst (v := 0) d_M_mean_11 (by decide) ?_
    refine hg_iconst (v := 1) d_M_mean_12 (by decide) ?_
    refine hg_cSi d_M_mean_13 l_M_111 rfl (Nat.le_of_ble_eq_true rfl) (m_M_in0 (b := 1) (by decide)) rfl ?_
    rintro _ _ ⟨⟨hhb, rfl⟩ | ⟨hhb, rfl⟩, rfl⟩
    · obtain ⟨q, hq, eq⟩ := hhb
      have ihb : hs_ix 2 p = some q := by rw [eq]; exact hs_ix_s (by omega) (by decide)
      subst eq
      show hg_WP l E _ Y_M_mean 0 0 16 [some (.ref (hg_ad E 21 0)), some (.int (nI m)), some (.int (nI q)), none, none] [.int 1] (I, Lg, Rf, X) _
      refine hg_if_eq (tgt := 26) d_M_mean_16 (by decide) (fun h_2 => absurd h_2 (by decide)) (fun h_2 => ?_)
      refine hg_aload0 d_M_mean_19 ?_
      refine hg_getI d_M_mean_20 f_M_108 rfl rfl (hX.lt (n := 1) ⟨by decide, by decide⟩ rfl (by omega)) ?_
      refine hg_eq1 (y := nI (hs_n (gN G))) (hM.1) ?_
      refine hg_if_ne (tgt := 30) d_M_mean_23 (by decide) (fun hz => ?_) (fun hz => ?_)
      · have hn0 : ¬ hs_n (gN G) = 0 := fun z => hz (by rw [z]; rfl)
        refine hg_aload0 d_M_mean_30 ?_
        refine hg_aload0 d_M_mean_31 ?_
        refine hg_getR d_M_mean_32 f_M_88 rfl rfl (hX.lt (n := 1) ⟨by decide, by decide⟩ rfl (by omega)) (hR.m (j := 43) (q := (22, 24)) rfl) ?_
        refine hg_cVv d_M_mean_35 l_M_263 rfl rfl (hX.lt (n := 1) ⟨by decide, by decide⟩ rfl (by omega)) rfl (Nat.le_of_ble_eq_true rfl) (m_M_keep24_ hX hR hM0.1 hLb) rfl ?_
        rintro _ ⟨I1, rfl, hk1, hi⟩
        have g1 := hM0.1.r hk1 (by decide)
        have hT1 := hT.s (hk1.s (Or.inl rfl))
        refine hg_iconst (v := 0) d_M_mean_38 (by decide) ?_
        refine hg_istore3 d_M_mean_39 rfl ?_
        refine m_M_mean_go hX hR hO hw hT1 hm ?_ m 0 I1 (Nat.zero_add _) g1.1 hm_t.rf
        intro I2 hM2 ht2
        obtain ⟨hO2, hw2, hn2, -⟩ := hs_th_all (tw := gW G) hO m
        have hkd : ∀ h, h < hs_n (gN G) → I2 22 4 h = nI ((fun h => (hs_hv (hs_th (gW G) (gN G) m) h 4).toNatClampNeg) h) ∧ (fun h => (hs_hv (hs_th (gW G) (gN G) m) h 4).toNatClampNeg) h ≤ 10059 := fun h hh => by
          obtain ⟨-, ⟨kd, h1, h2⟩, -⟩ := hO2.2.2.2.2.1 h (by omega)
          have h3 := hM2.2.2.2.2.2.2.2.1 h 4 (by omega) (by decide)
          have e : (fun h => (hs_hv (hs_th (gW G) (gN G) m) h 4).toNatClampNeg) h = kd := by show (hs_hv _ h 4).toNatClampNeg = kd; rw [h2, nI_clamp (by omega)]
          rw [e, h3, h2]; exact ⟨rfl, by omega⟩
        have hsm := hs_sm_le (f := (fun h => (hs_hv (hs_th (gW G) (gN G) m) h 4).toNatClampNeg)) (hs_n (gN G)) (fun h hh => (hkd h hh).2)
        have K : ∀ (k i : Nat), i + k = hs_n (gN G) → hg_WP l E (d + 7) Y_M_mean 0 0 60 [some (.ref (hg_ad E 21 0)), some (.int (nI m)), some (.int (nI q)), some (.int (nI (hs_sm (fun h => (hs_hv (hs_th (gW G) (gN G) m) h 4).toNatClampNeg) i))), some (.int (nI i))] [] (I2, Lg, Rf, X) (hg_l (fun v M' => hs_MP v (sp_mean (gW G) (gN G) (nI m) (nI q)) G I Lg Rf X M')) := by
          intro k
          induction k with
          | zero =>
            intro i hik
            obtain rfl : i = hs_n (gN G) := by omega
            refine hg_iload4 d_M_mean_60 ?_
            refine hg_aload0 d_M_mean_62 ?_
            refine hg_getI d_M_mean_63 f_M_108 rfl rfl (hX.lt (n := 1) ⟨by decide, by decide⟩ rfl (by omega)) ?_
            refine hg_eq1 (y := nI (hs_n (gN G))) (hM2.1.trans (congrArg nI hn2)) ?_
            refine hg_icmp_ge (tgt := 85) d_M_mean_66 (by decide) (fun h_3 => ?_) (fun h_3 => absurd (Int32.le_refl _) h_3)
            refine hg_aload0 d_M_mean_85 ?_
            refine hg_aload0 d_M_mean_86 ?_
            refine hg_getR d_M_mean_87 f_M_88 rfl rfl (hX.lt (n := 1) ⟨by decide, by decide⟩ rfl (by omega)) (hR.m (j := 43) (q := (22, 24)) rfl) ?_
            refine hg_cVv d_M_mean_90 l_M_267 rfl rfl (hX.lt (n := 1) ⟨by decide, by decide⟩ rfl (by omega)) rfl (Nat.le_of_ble_eq_true rfl) (m_M_again24_ hX hR (by rw [ht2.2.2 24 (by decide)]; exact hi) hLb) rfl ?_
            rintro _ ⟨I3, rfl, g3, hk3⟩
            refine hg_iload3 d_M_mean_93 ?_
            refine hg_i2l d_M_mean_94 ?_
            refine hg_aload0 d_M_mean_95 ?_
            refine hg_getI d_M_mean_96 f_M_108 rfl rfl (hX.lt (n := 1) ⟨by decide, by decide⟩ rfl (by omega)) ?_
            refine hg_eq1 (y := nI (hs_n (gN G))) (g3.1.1) ?_
            refine hg_i2l d_M_mean_99 ?_
            refine hg_iload2 d_M_mean_100 ?_
            rw [nI_l (n := hs_sm (fun h => (hs_hv (hs_th (gW G) (gN G) m) h 4).toNatClampNeg) (hs_n (gN G))) (by omega), nI_l (n := hs_n (gN G)) (by omega)]
            refine hg_cSl d_M_mean_101 l_M_290 rfl (Nat.le_of_ble_eq_true rfl) (m_M_part (a := hs_sm (fun h => (hs_hv (hs_th (gW G) (gN G) m) h 4).toNatClampNeg) (hs_n (gN G))) (b := hs_n (gN G)) (by omega) (by omega) (Or.inr (by omega))) rfl ?_
            rintro _ _ ⟨rfl, rfl⟩
            refine hg_lreturn d_M_mean_104 rfl ?_
            refine ⟨?_, I3, Lg, rfl, hM0.Z g3 (hk3.s.tr (ht2.s.tr (hk1.s (Or.inl rfl)))), (hk3.s.tr (ht2.s.tr (hk1.s (Or.inl rfl)))).lo, fun _ _ => rfl⟩
            rw [hs_fr_i (by omega)]; unfold sp_mean; rw [iha, ihb]; exact (if_neg hn0).symm
          | succ k ih =>
            intro i hik
            refine hg_iload4 d_M_mean_60 ?_
            refine hg_aload0 d_M_mean_62 ?_
            refine hg_getI d_M_mean_63 f_M_108 rfl rfl (hX.lt (n := 1) ⟨by decide, by decide⟩ rfl (by omega)) ?_
            refine hg_eq1 (y := nI (hs_n (gN G))) (hM2.1.trans (congrArg nI hn2)) ?_
            refine hg_icmp_ge (tgt := 85) d_M_mean_66 (by decide) (fun h_4 => absurd h_4 (nI_ge (by omega) (by omega))) (fun h_4 => ?_)
            refine hg_iload3 d_M_mean_69 ?_
            refine hg_aload0 d_M_mean_70 ?_
            refine hg_getR d_M_mean_71 f_M_24 rfl rfl (hX.lt (n := 1) ⟨by decide, by decide⟩ rfl (by omega)) (hR.m (j := 5) (q := (22, 4)) rfl) ?_
            refine hg_iload4 d_M_mean_74 ?_
            refine hg_iald_n (j := i) d_M_mean_76 rfl rfl (hX.lt (n := 28) ⟨by decide, by decide⟩ rfl (by omega)) (hX.jn (n := 6) (by decide) rfl (by omega)) ?_
            refine hg_eq1 (y := nI ((fun h => (hs_hv (hs_th (gW G) (gN G) m) h 4).toNatClampNeg) i)) ((hkd i (by omega)).1) ?_
            refine hg_iadd d_M_mean_77 ?_
            refine hg_eq1 (y := nI ((hs_sm (fun h => (hs_hv (hs_th (gW G) (gN G) m) h 4).toNatClampNeg) i) + ((fun h => (hs_hv (hs_th (gW G) (gN G) m) h 4).toNatClampNeg) i))) (nI_add _ _) ?_
            refine hg_istore3 d_M_mean_78 rfl ?_
            refine hg_iinc4 (v := nI (i + 1)) d_M_mean_79 rfl (nI_add _ _) ?_
            refine hg_goto (tgt := 60) d_M_mean_82 (by decide) ?_
            exact ih (i + 1) (by omega)
        refine hg_iconst (v := 0) d_M_mean_55 (by decide) ?_
        refine hg_istore3 d_M_mean_56 rfl ?_
        refine hg_iconst (v := 0) d_M_mean_57 (by decide) ?_
        refine hg_istore4 d_M_mean_58 rfl ?_
        exact K (hs_n (gN G)) 0 (by omega)
      · replace hz := Decidable.not_not.mp hz
        have hny : hs_n (gN G) = 0 := (nI_eq (b := 0) (by omega) (by decide)).mp hz
        refine hg_ldc2 d_M_mean_26 c_M_288 ?_
        refine hg_lreturn d_M_mean_29 rfl ?_
        refine ⟨?_, I, Lg, rfl, hM0, fun _ _ => rfl, fun _ _ => rfl⟩
        simp [sp_mean, iha, ihb, hny]
    · have ihb : hs_ix 2 p = none := hs_ix_n2 hhb
      refine hg_if_eq (tgt := 26) d_M_mean_16 (by decide) (fun h_5 => ?_) (fun h_5 => absurd (by decide) h_5)
      refine hg_ldc2 d_M_mean_26 c_M_288 ?_
      refine hg_lreturn d_M_mean_29 rfl ?_
      refine ⟨?_, I, Lg, rfl, hM0, fun _ _ => rfl, fun _ _ => rfl⟩
      simp [sp_mean, iha, ihb]
  · have iha : hs_ix 61 x = none := hs_ix_n2 hha
    refine hg_if_eq (tgt := 26) d_M_mean_7 (by decide) (fun h_6 => ?_) (fun h_6 => absurd (by decide) h_6)
    refine hg_ldc2 d_M_mean_26 c_M_288 ?_
    refine hg_lreturn d_M_mean_29 rfl ?_
    refine ⟨?_, I, Lg, rfl, hM0, fun _ _ => rfl, fun _ _ => rfl⟩
    simp [sp_mean, iha]

set_option maxHeartbeats 400000 in
theorem m_M_ends_loop {x : Int32} {Q : Option Value → hg_M → Prop} (hX : hg_XS T X) (hR : hg_SR T Rf) (hO : hs_ok T σ) (hw : hs_wk σ ≤ 9999) (hT : hs_MT T tw I) (hb : hs_Lb σ a0 a2 a4) (hM : hs_MG σ a0 a2 a4 I) (hL : hs_Lok (hs_n σ) a2 1) (K : ∀ (a3 : Option Value) (I2 : Nat → Nat → Nat → Int32), hs_MS (sp_pl tw σ a2 a2.1) I2 → hm_n I2 I → hg_WP l E (d + 7) Y_M_ends 0 0 99 [some (.ref (hg_ad E 21 0)), some (.int x), some (.int (nI a2.1)), a3] [] (I2, Lg, Rf, X) (Q)) : ∀ (k i : Nat) (a3 : Option Value) (I1 : Nat → Nat → Nat → Int32), i + k = a2.1 → hs_MS (sp_pl tw σ a2 i) I1 → hs_ok T (sp_pl tw σ a2 i) → hs_n (sp_pl tw σ a2 i) = hs_n σ → hs_wk (sp_pl tw σ a2 i) ≤ hs_wk σ + i → hm_n I1 I → hg_WP l E (d + 7) Y_M_ends 0 0 21 [some (.ref (hg_ad E 21 0)), some (.int x), some (.int (nI i)), a3] [] (I1, Lg, Rf, X) (Q) := by
  have hn6 := hO.1
  have hb2 : a2.1 ≤ 10 := hb.2.2.1
  intro k
  induction k with
  | zero =>
    intro i a3 I1 hik hg hO1 hn1 hw1 hs
    have hl2 := hM.2.2.1.kp (hs.2.1 33 (by omega)) (hs.2.2 18 (by omega)) (hs.2.2 19 (by omega))
    obtain rfl : i = a2.1 := by omega
    refine hg_iload2 d_M_ends_21 ?_
    refine hg_aload0 d_M_ends_22 ?_
    refine hg_getI d_M_ends_23 f_M_294 rfl rfl (hX.lt (n := 1) ⟨by decide, by decide⟩ rfl (by omega)) ?_
    refine hg_eq1 (y := nI a2.1) (hl2.1) ?_
    refine hg_icmp_ge (tgt := 99) d_M_ends_26 (by decide) (fun h_1 => ?_) (fun h_1 => absurd (Int32.le_refl _) h_1)
    exact K _ I1 hg hs
  | succ k ih =>
    intro i a3 I1 hik hg hO1 hn1 hw1 hs
    have hl2 := hM.2.2.1.kp (hs.2.1 33 (by omega)) (hs.2.2 18 (by omega)) (hs.2.2 19 (by omega))
    obtain ⟨l1, l2⟩ := hl2.2 i (by omega)
    obtain ⟨c, hc3, ec, hc⟩ := hL i (show i < a2.1 by omega)
    have hst : sp_pl tw σ a2 (i + 1) = sp_go tw (sp_pl tw σ a2 i) (a2.2.1 i) (a2.2.2 i) := rfl
    rw [ec] at hst
    have hc4 : c = 0 ∨ c = 1 ∨ c = 2 ∨ c = 3 := by omega
    rw [ec] at l1
    refine hg_iload2 d_M_ends_21 ?_
    refine hg_aload0 d_M_ends_22 ?_
    refine hg_getI d_M_ends_23 f_M_294 rfl rfl (hX.lt (n := 1) ⟨by decide, by decide⟩ rfl (by omega)) ?_
    refine hg_eq1 (y := nI a2.1) (hl2.1) ?_
    refine hg_icmp_ge (tgt := 99) d_M_ends_26 (by decide) (fun h_2 => absurd h_2 (nI_ge (by omega) (by omega))) (fun h_2 => ?_)
    refine hg_aload0 d_M_ends_29 ?_
    refine hg_getR d_M_ends_30 f_M_73 rfl rfl (hX.lt (n := 1) ⟨by decide, by decide⟩ rfl (by omega)) (hR.m (j := 35) (q := (22, 19)) rfl) ?_
    refine hg_iload2 d_M_ends_33 ?_
    refine hg_iald_n (j := i) d_M_ends_34 rfl rfl (hX.lt (n := 28) ⟨by decide, by decide⟩ rfl (by omega)) (hX.jn (n := 10) (by decide) rfl (by omega)) ?_
    refine hg_istore3 d_M_ends_35 rfl ?_
    rcases hc4 with rfl | rfl | rfl | rfl
    · refine hg_aload0 d_M_ends_36 ?_
      refine hg_getR d_M_ends_37 f_M_70 rfl rfl (hX.lt (n := 1) ⟨by decide, by decide⟩ rfl (by omega)) (hR.m (j := 34) (q := (22, 18)) rfl) ?_
      refine hg_iload2 d_M_ends_40 ?_
      refine hg_iald_n (j := i) d_M_ends_41 rfl rfl (hX.lt (n := 28) ⟨by decide, by decide⟩ rfl (by omega)) (hX.jn (n := 10) (by decide) rfl (by omega)) ?_
      refine hg_eq1 (y := 0) (l1) ?_
      refine hg_if_ne (tgt := 52) d_M_ends_42 (by decide) (fun h_3 => absurd h_3 (by decide)) (fun h_3 => ?_)
      refine hg_aload0 d_M_ends_45 ?_
      have hst2 : sp_pl tw σ a2 (i + 1) = hs_thu tw (sp_pl tw σ a2 i) := hst.trans (if_pos rfl)
      refine hg_cVv d_M_ends_46 l_M_257 rfl rfl (hX.lt (n := 1) ⟨by decide, by decide⟩ rfl (by omega)) rfl (Nat.le_of_ble_eq_true rfl) (m_M_goesThursday hX hR hg hO1 (hT.s hs.s) (by omega)) rfl ?_
      rintro _ ⟨I2, rfl, hM2, ht2⟩
      refine hg_goto (tgt := 93) d_M_ends_49 (by decide) ?_
      refine hg_iinc2 (v := nI (i + 1)) d_M_ends_93 rfl (nI_add _ _) ?_
      refine hg_goto (tgt := 21) d_M_ends_96 (by decide) ?_
      exact ih (i + 1) _ I2 (by omega) (by rw [hst2]; exact hM2) (by rw [hst2]; exact hO1.thu) (by rw [hst2, (hs_thu_all tw _).1]; exact hn1) (by rw [hst2, (hs_thu_all tw _).2.2.1]; omega) (ht2.n.tr hs)
    · obtain ⟨h, hh, eh⟩ := hc.resolve_left (by decide)
      rw [show I1 22 19 i = nI h from l2.trans ((if_neg (show ¬ a2.2.1 i = 0 by rw [ec]; decide)).trans eh)]
      have hx : (a2.2.2 i).toNatClampNeg = h := (congrArg Int32.toNatClampNeg eh).trans (nI_clamp (by omega))
      have hst2 : sp_pl tw σ a2 (i + 1) = hs_shv (sp_pl tw σ a2 i) h 6 1 := hst.trans (by unfold sp_go; rw [if_neg (by decide), if_neg (by decide), if_pos (by decide), hx])
      refine hg_aload0 d_M_ends_36 ?_
      refine hg_getR d_M_ends_37 f_M_70 rfl rfl (hX.lt (n := 1) ⟨by decide, by decide⟩ rfl (by omega)) (hR.m (j := 34) (q := (22, 18)) rfl) ?_
      refine hg_iload2 d_M_ends_40 ?_
      refine hg_iald_n (j := i) d_M_ends_41 rfl rfl (hX.lt (n := 28) ⟨by decide, by decide⟩ rfl (by omega)) (hX.jn (n := 10) (by decide) rfl (by omega)) ?_
      refine hg_eq1 (y := 1) (l1) ?_
      refine hg_if_ne (tgt := 52) d_M_ends_42 (by decide) (fun h_4 => ?_) (fun h_4 => absurd (by decide) h_4)
      refine hg_aload0 d_M_ends_52 ?_
      refine hg_getR d_M_ends_53 f_M_70 rfl rfl (hX.lt (n := 1) ⟨by decide, by decide⟩ rfl (by omega)) (hR.m (j := 34) (q := (22, 18)) rfl) ?_
      refine hg_iload2 d_M_ends_56 ?_
      refine hg_iald_n (j := i) d_M_ends_57 rfl rfl (hX.lt (n := 28) ⟨by decide, by decide⟩ rfl (by omega)) (hX.jn (n := 10) (by decide) rfl (by omega)) ?_
      refine hg_eq1 (y := 1) (l1) ?_
      refine hg_iconst (v := 3) d_M_ends_58 (by decide) ?_
      refine hg_icmp_ne (tgt := 72) d_M_ends_59 (by decide) (fun h_5 => ?_) (fun h_5 => absurd (by decide) h_5)
      refine hg_aload0 d_M_ends_72 ?_
      refine hg_getR d_M_ends_73 f_M_30 rfl rfl (hX.lt (n := 1) ⟨by decide, by decide⟩ rfl (by omega)) (hR.m (j := 7) (q := (22, 6)) rfl) ?_
      refine hg_iload3 d_M_ends_76 ?_
      refine hg_aload0 d_M_ends_77 ?_
      refine hg_getR d_M_ends_78 f_M_70 rfl rfl (hX.lt (n := 1) ⟨by decide, by decide⟩ rfl (by omega)) (hR.m (j := 34) (q := (22, 18)) rfl) ?_
      refine hg_iload2 d_M_ends_81 ?_
      refine hg_iald_n (j := i) d_M_ends_82 rfl rfl (hX.lt (n := 28) ⟨by decide, by decide⟩ rfl (by omega)) (hX.jn (n := 10) (by decide) rfl (by omega)) ?_
      refine hg_eq1 (y := 1) (l1) ?_
      refine hg_iconst (v := 1) d_M_ends_83 (by decide) ?_
      refine hg_icmp_ne (tgt := 91) d_M_ends_84 (by decide) (fun h_6 => absurd h_6 (by decide)) (fun h_6 => ?_)
      refine hg_iconst (v := 1) d_M_ends_87 (by decide) ?_
      refine hg_goto (tgt := 92) d_M_ends_88 (by decide) ?_
      refine hg_iast_n (j := h) d_M_ends_92 rfl rfl (hX.lt (n := 28) ⟨by decide, by decide⟩ rfl (by omega)) (hX.jn (n := 6) (by decide) rfl (by omega)) ?_
      refine hg_iinc2 (v := nI (i + 1)) d_M_ends_93 rfl (nI_add _ _) ?_
      refine hg_goto (tgt := 21) d_M_ends_96 (by decide) ?_
      exact ih (i + 1) _ _ (by omega) (by rw [hst2]; exact hg.shv (by decide)) (by rw [hst2]; exact hO1.shv (by decide) (by decide) (fun z => by first | exact absurd z (by decide) | exact Or.inl rfl | exact Or.inr rfl)) (by rw [hst2]; exact hn1) (by rw [hst2]; show hs_wk (sp_pl tw σ a2 i) ≤ _; omega) (hs.u22 (by decide))
    · obtain ⟨h, hh, eh⟩ := hc.resolve_left (by decide)
      rw [show I1 22 19 i = nI h from l2.trans ((if_neg (show ¬ a2.2.1 i = 0 by rw [ec]; decide)).trans eh)]
      have hx : (a2.2.2 i).toNatClampNeg = h := (congrArg Int32.toNatClampNeg eh).trans (nI_clamp (by omega))
      have hst2 : sp_pl tw σ a2 (i + 1) = hs_shv (sp_pl tw σ a2 i) h 6 0 := hst.trans (by unfold sp_go; rw [if_neg (by decide), if_neg (by decide), if_neg (by decide), hx])
      refine hg_aload0 d_M_ends_36 ?_
      refine hg_getR d_M_ends_37 f_M_70 rfl rfl (hX.lt (n := 1) ⟨by decide, by decide⟩ rfl (by omega)) (hR.m (j := 34) (q := (22, 18)) rfl) ?_
      refine hg_iload2 d_M_ends_40 ?_
      refine hg_iald_n (j := i) d_M_ends_41 rfl rfl (hX.lt (n := 28) ⟨by decide, by decide⟩ rfl (by omega)) (hX.jn (n := 10) (by decide) rfl (by omega)) ?_
      refine hg_eq1 (y := 2) (l1) ?_
      refine hg_if_ne (tgt := 52) d_M_ends_42 (by decide) (fun h_7 => ?_) (fun h_7 => absurd (by decide) h_7)
      refine hg_aload0 d_M_ends_52 ?_
      refine hg_getR d_M_ends_53 f_M_70 rfl rfl (hX.lt (n := 1) ⟨by decide, by decide⟩ rfl (by omega)) (hR.m (j := 34) (q := (22, 18)) rfl) ?_
      refine hg_iload2 d_M_ends_56 ?_
      refine hg_iald_n (j := i) d_M_ends_57 rfl rfl (hX.lt (n := 28) ⟨by decide, by decide⟩ rfl (by omega)) (hX.jn (n := 10) (by decide) rfl (by omega)) ?_
      refine hg_eq1 (y := 2) (l1) ?_
      refine hg_iconst (v := 3) d_M_ends_58 (by decide) ?_
      refine hg_icmp_ne (tgt := 72) d_M_ends_59 (by decide) (fun h_8 => ?_) (fun h_8 => absurd (by decide) h_8)
      refine hg_aload0 d_M_ends_72 ?_
      refine hg_getR d_M_ends_73 f_M_30 rfl rfl (hX.lt (n := 1) ⟨by decide, by decide⟩ rfl (by omega)) (hR.m (j := 7) (q := (22, 6)) rfl) ?_
      refine hg_iload3 d_M_ends_76 ?_
      refine hg_aload0 d_M_ends_77 ?_
      refine hg_getR d_M_ends_78 f_M_70 rfl rfl (hX.lt (n := 1) ⟨by decide, by decide⟩ rfl (by omega)) (hR.m (j := 34) (q := (22, 18)) rfl) ?_
      refine hg_iload2 d_M_ends_81 ?_
      refine hg_iald_n (j := i) d_M_ends_82 rfl rfl (hX.lt (n := 28) ⟨by decide, by decide⟩ rfl (by omega)) (hX.jn (n := 10) (by decide) rfl (by omega)) ?_
      refine hg_eq1 (y := 2) (l1) ?_
      refine hg_iconst (v := 1) d_M_ends_83 (by decide) ?_
      refine hg_icmp_ne (tgt := 91) d_M_ends_84 (by decide) (fun h_9 => ?_) (fun h_9 => absurd (by decide) h_9)
      refine hg_iconst (v := 0) d_M_ends_91 (by decide) ?_
      refine hg_iast_n (j := h) d_M_ends_92 rfl rfl (hX.lt (n := 28) ⟨by decide, by decide⟩ rfl (by omega)) (hX.jn (n := 6) (by decide) rfl (by omega)) ?_
      refine hg_iinc2 (v := nI (i + 1)) d_M_ends_93 rfl (nI_add _ _) ?_
      refine hg_goto (tgt := 21) d_M_ends_96 (by decide) ?_
      exact ih (i + 1) _ _ (by omega) (by rw [hst2]; exact hg.shv (by decide)) (by rw [hst2]; exact hO1.shv (by decide) (by decide) (fun z => by first | exact absurd z (by decide) | exact Or.inl rfl | exact Or.inr rfl)) (by rw [hst2]; exact hn1) (by rw [hst2]; show hs_wk (sp_pl tw σ a2 i) ≤ _; omega) (hs.u22 (by decide))
    · obtain ⟨h, hh, eh⟩ := hc.resolve_left (by decide)
      rw [show I1 22 19 i = nI h from l2.trans ((if_neg (show ¬ a2.2.1 i = 0 by rw [ec]; decide)).trans eh)]
      have hx : (a2.2.2 i).toNatClampNeg = h := (congrArg Int32.toNatClampNeg eh).trans (nI_clamp (by omega))
      have hst2 : sp_pl tw σ a2 (i + 1) = hs_shv (sp_pl tw σ a2 i) h 3 0 := hst.trans (by unfold sp_go; rw [if_neg (by decide), if_pos (by decide), hx])
      refine hg_aload0 d_M_ends_36 ?_
      refine hg_getR d_M_ends_37 f_M_70 rfl rfl (hX.lt (n := 1) ⟨by decide, by decide⟩ rfl (by omega)) (hR.m (j := 34) (q := (22, 18)) rfl) ?_
      refine hg_iload2 d_M_ends_40 ?_
      refine hg_iald_n (j := i) d_M_ends_41 rfl rfl (hX.lt (n := 28) ⟨by decide, by decide⟩ rfl (by omega)) (hX.jn (n := 10) (by decide) rfl (by omega)) ?_
      refine hg_eq1 (y := 3) (l1) ?_
      refine hg_if_ne (tgt := 52) d_M_ends_42 (by decide) (fun h_10 => ?_) (fun h_10 => absurd (by decide) h_10)
      refine hg_aload0 d_M_ends_52 ?_
      refine hg_getR d_M_ends_53 f_M_70 rfl rfl (hX.lt (n := 1) ⟨by decide, by decide⟩ rfl (by omega)) (hR.m (j := 34) (q := (22, 18)) rfl) ?_
      refine hg_iload2 d_M_ends_56 ?_
      refine hg_iald_n (j := i) d_M_ends_57 rfl rfl (hX.lt (n := 28) ⟨by decide, by decide⟩ rfl (by omega)) (hX.jn (n := 10) (by decide) rfl (by omega)) ?_
      refine hg_eq1 (y := 3) (l1) ?_
      refine hg_iconst (v := 3) d_M_ends_58 (by decide) ?_
      refine hg_icmp_ne (tgt := 72) d_M_ends_59 (by decide) (fun h_11 => absurd h_11 (by decide)) (fun h_11 => ?_)
      refine hg_aload0 d_M_ends_62 ?_
      refine hg_getR d_M_ends_63 f_M_21 rfl rfl (hX.lt (n := 1) ⟨by decide, by decide⟩ rfl (by omega)) (hR.m (j := 4) (q := (22, 3)) rfl) ?_
      refine hg_iload3 d_M_ends_66 ?_
      refine hg_iconst (v := 0) d_M_ends_67 (by decide) ?_
      refine hg_iast_n (j := h) d_M_ends_68 rfl rfl (hX.lt (n := 28) ⟨by decide, by decide⟩ rfl (by omega)) (hX.jn (n := 6) (by decide) rfl (by omega)) ?_
      refine hg_goto (tgt := 93) d_M_ends_69 (by decide) ?_
      refine hg_iinc2 (v := nI (i + 1)) d_M_ends_93 rfl (nI_add _ _) ?_
      refine hg_goto (tgt := 21) d_M_ends_96 (by decide) ?_
      exact ih (i + 1) _ _ (by omega) (by rw [hst2]; exact hg.shv (by decide)) (by rw [hst2]; exact hO1.shv (by decide) (by decide) (fun z => by first | exact absurd z (by decide) | exact Or.inl rfl | exact Or.inr rfl)) (by rw [hst2]; exact hn1) (by rw [hst2]; show hs_wk (sp_pl tw σ a2 i) ≤ _; omega) (hs.u22 (by decide))
set_option maxHeartbeats 400000 in
theorem m_M_ends {x : Int32} (hX : hg_XS (gT G) X) (hR : hg_SR (gT G) Rf) (hM0 : hs_MR G I Lg) (hG : hs_gok G) : hg_MC l E (d + 8) Y_M_ends 0 0 [.ref (hg_ad E 21 0), .int x] (I, Lg, Rf, X) (hg_i (fun v M' => hs_MP v (sp_ends (gW G) (gN G) (gL G 2) x) G I Lg Rf X M')) := by
  have hM := hM0.1.1
  have hO := hG.1
  have hn6 := hO.1
  have hT := hM0.2.2.2.2.2.2.2
  have hw := hG.2.1
  have hL0 := hG.2.2.2.1 0 (by decide)
  have hL2 := hG.2.2.2.1 2 (by decide)
  have hL4 := hG.2.2.2.1 4 (by decide)
  replace hL0 : (gL G 0).1 ≤ 5 := hL0
  replace hL2 : (gL G 2).1 ≤ 10 := hL2
  replace hL4 : (gL G 4).1 ≤ 8 := hL4
  have hLb : hs_Lb (gN G) (gL G 0) (gL G 2) (gL G 4) := ⟨hn6, hL0, hL2, hL4⟩
  refine hg_mc k_M_ends (Nat.le_of_ble_eq_true rfl) ?_
  show hg_WP l E _ Y_M_ends 0 0 0 [some (.ref (hg_ad E 21 0)), some (.int x), none, none] [] (I, Lg, Rf, X) _
  refine hg_iload1 d_M_ends_0 ?_
  refine hg_iconst (v := 0) d_M_ends_1 (by decide) ?_
  refine hg_iconst (v := 1) d_M_ends_2 (by decide) ?_
  refine hg_cSi d_M_ends_3 l_M_111 rfl (Nat.le_of_ble_eq_true rfl) (m_M_in0 (b := 1) (by decide)) rfl ?_
  rintro _ _ ⟨⟨hha, rfl⟩ | ⟨hha, rfl⟩, rfl⟩
  · obtain ⟨q, hq, eq⟩ := hha
    have iha : hs_ix 2 x = some q := by rw [eq]; exact hs_ix_s (by omega) (by decide)
    subst eq
    show hg_WP l E _ Y_M_ends 0 0 6 [some (.ref (hg_ad E 21 0)), some (.int (nI q)), none, none] [.int 1] (I, Lg, Rf, X) _
    refine hg_if_ne (tgt := 11) d_M_ends_6 (by decide) (fun h_1 => ?_) (fun h_1 => absurd (by decide) h_1)
    have h6_q : q = 0 ∨ q = 1 := by omega
    rcases h6_q with rfl | rfl
    · show hg_WP l E _ Y_M_ends 0 0 11 [some (.ref (hg_ad E 21 0)), some (.int 0), none, none] [] (I, Lg, Rf, X) _
      replace iha : hs_ix 2 0 = some 0 := iha
      refine hg_aload0 d_M_ends_11 ?_
      refine hg_aload0 d_M_ends_12 ?_
      refine hg_getR d_M_ends_13 f_M_88 rfl rfl (hX.lt (n := 1) ⟨by decide, by decide⟩ rfl (by omega)) (hR.m (j := 43) (q := (22, 24)) rfl) ?_
      refine hg_cVv d_M_ends_16 l_M_263 rfl rfl (hX.lt (n := 1) ⟨by decide, by decide⟩ rfl (by omega)) rfl (Nat.le_of_ble_eq_true rfl) (m_M_keep24_ hX hR hM0.1 hLb) rfl ?_
      rintro _ ⟨I1, rfl, hk1, hi⟩
      have g1 := hM0.1.r hk1 (by decide)
      have hT1 := hT.s (hk1.s (Or.inl rfl))
      refine hg_iconst (v := 0) d_M_ends_19 (by decide) ?_
      refine hg_istore2 d_M_ends_20 rfl ?_
      refine m_M_ends_loop hX hR hO hw hT1 hLb g1 (hG.2.2.2.2.1 1 (by decide)) ?_ (gL G 2).1 0 _ I1 (by omega) g1.1 hO rfl (Nat.le_refl _) hm_n.rf
      intro a3 I2 hM2 ht2
      refine hg_iload1 d_M_ends_99 ?_
      refine hg_if_ne (tgt := 110) d_M_ends_100 (by decide) (fun h_2 => absurd h_2 (by decide)) (fun h_2 => ?_)
      refine hg_aload0 d_M_ends_103 ?_
      refine hg_getI d_M_ends_104 f_M_251 rfl rfl (hX.lt (n := 1) ⟨by decide, by decide⟩ rfl (by omega)) ?_
      refine hg_eq1 (y := nI (hs_cl (sp_pl (gW G) (gN G) (gL G 2) (gL G 2).1))) (hM2.2.2.2.1) ?_
      refine hg_goto (tgt := 114) d_M_ends_107 (by decide) ?_
      refine hg_istore2 d_M_ends_114 rfl ?_
      refine hg_aload0 d_M_ends_115 ?_
      refine hg_aload0 d_M_ends_116 ?_
      refine hg_getR d_M_ends_117 f_M_88 rfl rfl (hX.lt (n := 1) ⟨by decide, by decide⟩ rfl (by omega)) (hR.m (j := 43) (q := (22, 24)) rfl) ?_
      refine hg_cVv d_M_ends_120 l_M_267 rfl rfl (hX.lt (n := 1) ⟨by decide, by decide⟩ rfl (by omega)) rfl (Nat.le_of_ble_eq_true rfl) (m_M_again24_ hX hR (by rw [ht2.2.2 24 (by decide)]; exact hi) hLb) rfl ?_
      rintro _ ⟨I3, rfl, g3, hk3⟩
      refine hg_iload2 d_M_ends_123 ?_
      refine hg_ireturn d_M_ends_124 rfl rfl ?_
      refine ⟨?_, I3, Lg, rfl, hM0.Z g3 (hk3.s.tr (ht2.s.tr (hk1.s (Or.inl rfl)))), (hk3.s.tr (ht2.s.tr (hk1.s (Or.inl rfl)))).lo, fun _ _ => rfl⟩
      show _ = sp_ends (gW G) (gN G) (gL G 2) 0
      simp [sp_ends, iha]
    · show hg_WP l E _ Y_M_ends 0 0 11 [some (.ref (hg_ad E 21 0)), some (.int 1), none, none] [] (I, Lg, Rf, X) _
      replace iha : hs_ix 2 1 = some 1 := iha
      refine hg_aload0 d_M_ends_11 ?_
      refine hg_aload0 d_M_ends_12 ?_
      refine hg_getR d_M_ends_13 f_M_88 rfl rfl (hX.lt (n := 1) ⟨by decide, by decide⟩ rfl (by omega)) (hR.m (j := 43) (q := (22, 24)) rfl) ?_
      refine hg_cVv d_M_ends_16 l_M_263 rfl rfl (hX.lt (n := 1) ⟨by decide, by decide⟩ rfl (by omega)) rfl (Nat.le_of_ble_eq_true rfl) (m_M_keep24_ hX hR hM0.1 hLb) rfl ?_
      rintro _ ⟨I1, rfl, hk1, hi⟩
      have g1 := hM0.1.r hk1 (by decide)
      have hT1 := hT.s (hk1.s (Or.inl rfl))
      refine hg_iconst (v := 0) d_M_ends_19 (by decide) ?_
      refine hg_istore2 d_M_ends_20 rfl ?_
      refine m_M_ends_loop hX hR hO hw hT1 hLb g1 (hG.2.2.2.2.1 1 (by decide)) ?_ (gL G 2).1 0 _ I1 (by omega) g1.1 hO rfl (Nat.le_refl _) hm_n.rf
      intro a3 I2 hM2 ht2
      refine hg_iload1 d_M_ends_99 ?_
      refine hg_if_ne (tgt := 110) d_M_ends_100 (by decide) (fun h_3 => ?_) (fun h_3 => absurd (by decide) h_3)
      refine hg_aload0 d_M_ends_110 ?_
      refine hg_getI d_M_ends_111 f_M_248 rfl rfl (hX.lt (n := 1) ⟨by decide, by decide⟩ rfl (by omega)) ?_
      refine hg_eq1 (y := nI (hs_hu (sp_pl (gW G) (gN G) (gL G 2) (gL G 2).1))) (hM2.2.2.1) ?_
      refine hg_istore2 d_M_ends_114 rfl ?_
      refine hg_aload0 d_M_ends_115 ?_
      refine hg_aload0 d_M_ends_116 ?_
      refine hg_getR d_M_ends_117 f_M_88 rfl rfl (hX.lt (n := 1) ⟨by decide, by decide⟩ rfl (by omega)) (hR.m (j := 43) (q := (22, 24)) rfl) ?_
      refine hg_cVv d_M_ends_120 l_M_267 rfl rfl (hX.lt (n := 1) ⟨by decide, by decide⟩ rfl (by omega)) rfl (Nat.le_of_ble_eq_true rfl) (m_M_again24_ hX hR (by rw [ht2.2.2 24 (by decide)]; exact hi) hLb) rfl ?_
      rintro _ ⟨I3, rfl, g3, hk3⟩
      refine hg_iload2 d_M_ends_123 ?_
      refine hg_ireturn d_M_ends_124 rfl rfl ?_
      refine ⟨?_, I3, Lg, rfl, hM0.Z g3 (hk3.s.tr (ht2.s.tr (hk1.s (Or.inl rfl)))), (hk3.s.tr (ht2.s.tr (hk1.s (Or.inl rfl)))).lo, fun _ _ => rfl⟩
      show _ = sp_ends (gW G) (gN G) (gL G 2) 1
      simp [sp_ends, iha]
  · have iha : hs_ix 2 x = none := hs_ix_n2 hha
    refine hg_if_ne (tgt := 11) d_M_ends_6 (by decide) (fun h_4 => absurd h_4 (by decide)) (fun h_4 => ?_)
    refine hg_iconst (v := (-1)) d_M_ends_9 (by decide) ?_
    refine hg_ireturn d_M_ends_10 rfl rfl ?_
    refine ⟨?_, I, Lg, rfl, hM0, fun _ _ => rfl, fun _ _ => rfl⟩
    simp [sp_ends, iha]

end M40
