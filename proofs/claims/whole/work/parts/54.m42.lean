/-! the model: rests, feign -/
section M42
variable {l : Launch} {E : hg_E} {d T : Nat}
variable {I : Nat → Nat → Nat → Int32} {Lg : Nat → Nat → Nat → Int64} {Rf : Nat → Nat → Nat → Option (Nat × Nat)} {X : Nat × (Nat → Nat) × (Nat → Nat → Nat)}
variable {I' I1 : Nat → Nat → Nat → Int32} {Lg' : Nat → Nat → Nat → Int64} {σ τ : hs_S} {tw : hs_W} {a0 a2 a4 : hs_L} {G : hs_G}
theorem m_M_rests_loop {s m : Nat} (hX : hg_XS T X) (hR : hg_SR T Rf) (hO : hs_ok T σ) (hw : hs_wk σ ≤ 9999) (hM : hs_MS σ I) (hm : m ≤ 6) (hs64 : s < 64) (hsub : hs_sub s (hs_opn σ (hs_n σ)) = true) (hd : ∀ s, s ≤ (hs_opn σ (hs_n σ)) → hs_sub s (hs_opn σ (hs_n σ)) = true → ∀ h, h < hs_n σ → I 22 25 (6 * s + h) = hs_hv (sp_fg tw σ m s) h 4) : ∀ (k p : Nat), p + k = hs_n σ → (∀ q, q < p → hs_hv σ q 6 = 0 → ¬ hs_hv (sp_fg tw σ m (hs_flip s q)) q 4 < hs_hv (sp_fg tw σ m s) q 4) → hg_WP l E (d + 1) Y_M_rests 0 0 2 [some (.ref (hg_ad E 21 0)), some (.int (nI s)), some (.int (nI (hs_opn σ (hs_n σ)))), some (.int (nI p))] [] (I, Lg, Rf, X) (hg_i (fun v M' => v = (if sp_rest tw σ m s = true then 1 else 0) ∧ M' = (I, Lg, Rf, X))) := by
  have hn6 := hO.1
  have ho64 := hs_opn_64 (σ := σ) hn6
  intro k
  induction k with
  | zero =>
    intro p hpk hall
    obtain rfl : p = hs_n σ := by omega
    refine hg_iload3 d_M_rests_2 ?_
    refine hg_aload0 d_M_rests_3 ?_
    refine hg_getI d_M_rests_4 f_M_108 rfl rfl (hX.lt (n := 1) ⟨by decide, by decide⟩ rfl (by omega)) ?_
    refine hg_eq1 (y := nI (hs_n σ)) (hM.1) ?_
    refine hg_icmp_ge (tgt := 55) d_M_rests_7 (by decide) (fun h_1 => ?_) (fun h_1 => absurd (Int32.le_refl _) h_1)
    refine hg_iconst (v := 1) d_M_rests_55 (by decide) ?_
    refine hg_ireturn d_M_rests_56 rfl (by decide) ?_
    exact ⟨(if_pos (hs_B_t.mpr hall)).symm, rfl⟩
  | succ k ih =>
    intro p hpk hall
    have hp : p < hs_n σ := by omega
    have hob := hs_opn_bt σ (hs_n σ) hn6 p hp
    refine hg_iload3 d_M_rests_2 ?_
    refine hg_aload0 d_M_rests_3 ?_
    refine hg_getI d_M_rests_4 f_M_108 rfl rfl (hX.lt (n := 1) ⟨by decide, by decide⟩ rfl (by omega)) ?_
    refine hg_eq1 (y := nI (hs_n σ)) (hM.1) ?_
    refine hg_icmp_ge (tgt := 55) d_M_rests_7 (by decide) (fun h_2 => absurd h_2 (nI_ge (by omega) (by omega))) (fun h_2 => ?_)
    refine hg_iload2 d_M_rests_10 ?_
    refine hg_iload3 d_M_rests_11 ?_
    refine hg_cSi d_M_rests_12 l_M_239 rfl (Nat.le_of_ble_eq_true rfl) (m_M_has ho64 (show p < 6 by omega)) rfl ?_
    rintro _ _ ⟨⟨hb, rfl⟩ | ⟨hb, rfl⟩, rfl⟩
    · obtain ⟨hf1, hf2⟩ := fg_flip s hs64 p (by omega)
      have hfs := fg_subf hs64 (show p < 6 by omega) hsub hb
      refine hg_if_eq (tgt := 49) d_M_rests_15 (by decide) (fun h_3 => absurd h_3 (by decide)) (fun h_3 => ?_)
      refine hg_aload0 d_M_rests_18 ?_
      refine hg_getR d_M_rests_19 f_M_91 rfl rfl (hX.lt (n := 1) ⟨by decide, by decide⟩ rfl (by omega)) (hR.m (j := 44) (q := (22, 25)) rfl) ?_
      refine hg_bipush (v := 6) d_M_rests_22 (by decide) ?_
      refine hg_iload1 d_M_rests_24 ?_
      refine hg_iconst (v := 1) d_M_rests_25 (by decide) ?_
      refine hg_iload3 d_M_rests_26 ?_
      refine hg_ishl d_M_rests_27 ?_
      refine hg_ixor d_M_rests_28 ?_
      refine hg_eq1 (y := nI (hs_flip s p)) (hf1) ?_
      refine hg_imul d_M_rests_29 ?_
      refine hg_eq1 (y := nI (6 * (hs_flip s p))) (pk_mul _ _) ?_
      refine hg_iload3 d_M_rests_30 ?_
      refine hg_iadd d_M_rests_31 ?_
      refine hg_eq1 (y := nI ((6 * (hs_flip s p)) + p)) (nI_add _ _) ?_
      refine hg_iald_n (j := ((6 * (hs_flip s p)) + p)) d_M_rests_32 rfl rfl (hX.lt (n := 28) ⟨by decide, by decide⟩ rfl (by omega)) (hX.jn (n := 384) (by decide) rfl (by omega)) ?_
      refine hg_eq1 (y := hs_hv (sp_fg tw σ m (hs_flip s p)) p 4) (hd _ (fg_le _ hf2 _ ho64 hfs) hfs p hp) ?_
      refine hg_aload0 d_M_rests_33 ?_
      refine hg_getR d_M_rests_34 f_M_91 rfl rfl (hX.lt (n := 1) ⟨by decide, by decide⟩ rfl (by omega)) (hR.m (j := 44) (q := (22, 25)) rfl) ?_
      refine hg_bipush (v := 6) d_M_rests_37 (by decide) ?_
      refine hg_iload1 d_M_rests_39 ?_
      refine hg_imul d_M_rests_40 ?_
      refine hg_eq1 (y := nI (6 * s)) (pk_mul _ _) ?_
      refine hg_iload3 d_M_rests_41 ?_
      refine hg_iadd d_M_rests_42 ?_
      refine hg_eq1 (y := nI ((6 * s) + p)) (nI_add _ _) ?_
      refine hg_iald_n (j := ((6 * s) + p)) d_M_rests_43 rfl rfl (hX.lt (n := 28) ⟨by decide, by decide⟩ rfl (by omega)) (hX.jn (n := 384) (by decide) rfl (by omega)) ?_
      refine hg_eq1 (y := hs_hv (sp_fg tw σ m s) p 4) (hd s (fg_le s hs64 _ ho64 hsub) hsub p hp) ?_
      refine hg_icmp_ge (tgt := 49) d_M_rests_44 (by decide) (fun hlt => ?_) (fun hlt => ?_)
      · refine hg_iinc3 (v := nI (p + 1)) d_M_rests_49 rfl (nI_add _ _) ?_
        refine hg_goto (tgt := 2) d_M_rests_52 (by decide) ?_
        refine ih (p + 1) (by omega) (fun q hq hz => ?_)
        by_cases e : q = p
        · subst e; exact Int32.not_lt.mpr hlt
        · exact hall q (by omega) hz
      · replace hlt := Int32.not_le.mp hlt
        refine hg_iconst (v := 0) d_M_rests_47 (by decide) ?_
        refine hg_ireturn d_M_rests_48 rfl (by decide) ?_
        exact ⟨(if_neg (fun z => (show ∀ q, q < hs_n σ → hs_hv σ q 6 = 0 → ¬ hs_hv (sp_fg tw σ m (hs_flip s q)) q 4 < hs_hv (sp_fg tw σ m s) q 4 from hs_B_t.mp z) p hp (hob.mp hb) hlt)).symm, rfl⟩
    · refine hg_if_eq (tgt := 49) d_M_rests_15 (by decide) (fun h_4 => ?_) (fun h_4 => absurd (by decide) h_4)
      refine hg_iinc3 (v := nI (p + 1)) d_M_rests_49 rfl (nI_add _ _) ?_
      refine hg_goto (tgt := 2) d_M_rests_52 (by decide) ?_
      refine ih (p + 1) (by omega) (fun q hq hz => ?_)
      by_cases e : q = p
      · subst e; exact absurd (hob.mpr hz) hb
      · exact hall q (by omega) hz
theorem m_M_rests {s m : Nat} (hX : hg_XS T X) (hR : hg_SR T Rf) (hO : hs_ok T σ) (hw : hs_wk σ ≤ 9999) (hM : hs_MS σ I) (hm : m ≤ 6) (hs64 : s < 64) (hsub : hs_sub s (hs_opn σ (hs_n σ)) = true) (hd : ∀ s, s ≤ (hs_opn σ (hs_n σ)) → hs_sub s (hs_opn σ (hs_n σ)) = true → ∀ h, h < hs_n σ → I 22 25 (6 * s + h) = hs_hv (sp_fg tw σ m s) h 4) : hg_MC l E (d + 2) Y_M_rests 0 0 [.ref (hg_ad E 21 0), .int (nI s), .int (nI (hs_opn σ (hs_n σ)))] (I, Lg, Rf, X) (hg_i (fun v M' => v = (if sp_rest tw σ m s = true then 1 else 0) ∧ M' = (I, Lg, Rf, X))) := by
  refine hg_mc k_M_rests (Nat.le_of_ble_eq_true rfl) ?_
  show hg_WP l E _ Y_M_rests 0 0 0 [some (.ref (hg_ad E 21 0)), some (.int (nI s)), some (.int (nI (hs_opn σ (hs_n σ)))), none] [] (I, Lg, Rf, X) _
  refine hg_iconst (v := 0) d_M_rests_0 (by decide) ?_
  refine hg_istore3 d_M_rests_1 rfl ?_
  exact m_M_rests_loop hX hR hO hw hM hm hs64 hsub hd _ 0 (Nat.zero_add _) (fun q hq => absurd hq (Nat.not_lt_zero _))

theorem m_M_feign2 {m b : Nat} (hX : hg_XS T X) (hR : hg_SR T Rf) (hO : hs_ok T σ) (hw : hs_wk σ ≤ 9999) (hT : hs_MT T tw I) (hb : hs_Lb σ a0 a2 a4) (hm0 : 0 < m) (hm : m ≤ 6) (hb2 : b < 2) (hg : hs_MG σ a0 a2 a4 I1) (hs1 : hm_s I1 I) (hd : ∀ s, s ≤ (hs_opn σ (hs_n σ)) → hs_sub s (hs_opn σ (hs_n σ)) = true → ∀ h, h < hs_n σ → I1 22 25 (6 * s + h) = hs_hv (sp_fg tw σ m s) h 4) : ∀ (s c : Nat) (L : Int32), s ≤ (2 ^ hs_n σ) → c + hs_cnt (sp_fok tw σ m) s = hs_cnt (sp_fok tw σ m) (2 ^ hs_n σ) → hs_fst (sp_fok tw σ m) (2 ^ hs_n σ) = (if hs_cnt (sp_fok tw σ m) s = 0 then L else hs_fst (sp_fok tw σ m) s) → hg_WP l E (d + 8) Y_M_feign 0 0 82 [some (.ref (hg_ad E 21 0)), some (.int (nI m)), some (.int (nI b)), some (.int (nI (hs_opn σ (hs_n σ)))), some (.int (nI c)), some (.int L), some (.int (nI s - 1))] [] (I1, Lg, Rf, X) (hg_i (fun v M' => v = sp_feign tw σ (nI m) (nI b) ∧ ∃ I' : Nat → Nat → Nat → Int32, M' = (I', Lg, Rf, X) ∧ hs_MG σ a0 a2 a4 I' ∧ hm_s I' I)) := by
  have hn6 := hO.1
  have ho64 := hs_opn_64 (σ := σ) hn6
  have hN64 : (2 ^ hs_n σ) ≤ 64 := Nat.le_trans (Nat.pow_le_pow_right (by decide) hn6) (by decide)
  have hoN := hs_opn_lt σ (hs_n σ)
  have hcN := hs_cnt_le (sp_fok tw σ m) (2 ^ hs_n σ)
  have hext : hs_cnt (sp_fok tw σ m) (2 ^ hs_n σ) = hs_cnt (sp_fok tw σ m) ((hs_opn σ (hs_n σ)) + 1) ∧ hs_fst (sp_fok tw σ m) (2 ^ hs_n σ) = hs_fst (sp_fok tw σ m) ((hs_opn σ (hs_n σ)) + 1) := by
    have := hs_dn_e (f := (sp_fok tw σ m)) (M := (hs_opn σ (hs_n σ)) + 1) ((2 ^ hs_n σ) - ((hs_opn σ (hs_n σ)) + 1)) (fun s h1 h2 z => by
      unfold sp_fok at z; rw [Bool.and_eq_true] at z
      have := fg_le s (by omega) _ ho64 z.1; omega)
    rwa [show (hs_opn σ (hs_n σ)) + 1 + ((2 ^ hs_n σ) - ((hs_opn σ (hs_n σ)) + 1)) = (2 ^ hs_n σ) by omega] at this
  intro s
  induction s with
  | zero =>
    intro c L hsN hc hL
    refine hg_iload6 d_M_feign_82 ?_
    refine hg_if_lt (tgt := 122) d_M_feign_84 (by decide) (fun h_1 => ?_) (fun h_1 => absurd (by decide) h_1)
    refine hg_iload2 d_M_feign_122 ?_
    refine hg_if_ne (tgt := 131) d_M_feign_123 (by decide) (fun hb0 => ?_) (fun hb0 => ?_)
    · refine hg_iload5 d_M_feign_131 ?_
      refine hg_ireturn d_M_feign_133 rfl rfl ?_
      refine ⟨?_, I1, rfl, hg, hs1⟩
      have h2 : b = 0 ∨ b = 1 := by omega
      unfold sp_feign; rw [hs_ix_s hb2 (by decide), hs_ix_s (show m < 7 by omega) (by decide)]
      refine Eq.symm ((if_neg (by omega)).trans ?_)
      have hc0 : c = hs_cnt (sp_fok tw σ m) (2 ^ hs_n σ) := hc
      have hL0 : hs_fst (sp_fok tw σ m) (2 ^ hs_n σ) = L := hL.trans (if_pos rfl)
      rw [← hext.1, ← hext.2, hL0, ← hc0]
      rcases h2 with rfl | rfl
      · first | exact absurd rfl hb0 | exact if_pos rfl
      · first | exact absurd hb0 (by decide) | exact if_neg (by decide)
    · replace hb0 := Decidable.not_not.mp hb0
      refine hg_iload4 d_M_feign_126 ?_
      refine hg_goto (tgt := 133) d_M_feign_128 (by decide) ?_
      refine hg_ireturn d_M_feign_133 rfl rfl ?_
      refine ⟨?_, I1, rfl, hg, hs1⟩
      have h2 : b = 0 ∨ b = 1 := by omega
      unfold sp_feign; rw [hs_ix_s hb2 (by decide), hs_ix_s (show m < 7 by omega) (by decide)]
      refine Eq.symm ((if_neg (by omega)).trans ?_)
      have hc0 : c = hs_cnt (sp_fok tw σ m) (2 ^ hs_n σ) := hc
      have hL0 : hs_fst (sp_fok tw σ m) (2 ^ hs_n σ) = L := hL.trans (if_pos rfl)
      rw [← hext.1, ← hext.2, hL0, ← hc0]
      rcases h2 with rfl | rfl
      · first | exact absurd rfl hb0 | exact if_pos rfl
      · first | exact absurd hb0 (by decide) | exact if_neg (by decide)
  | succ s ih =>
    intro c L hsN hc hL
    have hsb := fg_sub s (by omega) _ ho64
    rw [nI_pred s]
    refine hg_iload6 d_M_feign_82 ?_
    refine hg_if_lt (tgt := 122) d_M_feign_84 (by decide) (fun h_2 => absurd h_2 (Int32.not_lt.mpr (nI_le (a := 0) (b := s) (Nat.zero_le _) (by omega)))) (fun h_2 => ?_)
    refine hg_iload6 d_M_feign_87 ?_
    refine hg_iload3 d_M_feign_89 ?_
    refine hg_iconst (v := (-1)) d_M_feign_90 (by decide) ?_
    refine hg_ixor d_M_feign_91 ?_
    refine hg_iand d_M_feign_92 ?_
    refine hg_if_ne (tgt := 116) d_M_feign_93 (by decide) (fun hsu => ?_) (fun hsu => ?_)
    · refine hg_iinc6 (v := (nI s) + (-1)) d_M_feign_116 rfl rfl ?_
      refine hg_goto (tgt := 82) d_M_feign_119 (by decide) ?_
      rw [show nI s + (-1) = nI s - 1 from (Int32.sub_eq_add_neg _ _).symm]
      have hok : ¬ sp_fok tw σ m s = true := by unfold sp_fok; rw [Bool.and_eq_true]; exact fun z => hsu (hsb.mpr z.1)
      exact ih c L (by omega) (by rw [← hc, show hs_cnt (sp_fok tw σ m) (s + 1) = hs_cnt (sp_fok tw σ m) s from if_neg hok]) (hs_dn_f hL hok)
    · replace hsu := Decidable.not_not.mp hsu
      refine hg_aload0 d_M_feign_96 ?_
      refine hg_iload6 d_M_feign_97 ?_
      refine hg_iload3 d_M_feign_99 ?_
      have hsub := hsb.mp hsu
      refine hg_cVi d_M_feign_100 l_M_279 rfl rfl (hX.lt (n := 1) ⟨by decide, by decide⟩ rfl (by omega)) rfl (Nat.le_of_ble_eq_true rfl) (m_M_rests (tw := tw) (m := m) (s := s) hX hR hO hw hg.1 hm (by omega) hsub hd) rfl ?_
      rintro _ _ ⟨rfl, rfl⟩
      by_cases hu : sp_rest tw σ m s = true
      · refine hg_eq1 (y := 1) (if_pos hu) ?_
        refine hg_if_ne (tgt := 109) d_M_feign_103 (by decide) (fun h_3 => ?_) (fun h_3 => absurd (by decide) h_3)
        refine hg_iinc4 (v := nI (c + 1)) d_M_feign_109 rfl (nI_add _ _) ?_
        refine hg_iload6 d_M_feign_112 ?_
        refine hg_istore5 d_M_feign_114 rfl ?_
        refine hg_iinc6 (v := (nI s) + (-1)) d_M_feign_116 rfl rfl ?_
        refine hg_goto (tgt := 82) d_M_feign_119 (by decide) ?_
        rw [show nI s + (-1) = nI s - 1 from (Int32.sub_eq_add_neg _ _).symm]
        have hok : sp_fok tw σ m s = true := by unfold sp_fok; rw [hsub, hu]; rfl
        exact ih (c + 1) (nI s) (by omega) (by rw [← hc, show hs_cnt (sp_fok tw σ m) (s + 1) = hs_cnt (sp_fok tw σ m) s + 1 from if_pos hok]; omega) (hs_dn_t hL hok)
      · refine hg_eq1 (y := 0) (if_neg hu) ?_
        refine hg_if_ne (tgt := 109) d_M_feign_103 (by decide) (fun h_4 => absurd h_4 (by decide)) (fun h_4 => ?_)
        refine hg_goto (tgt := 116) d_M_feign_106 (by decide) ?_
        refine hg_iinc6 (v := (nI s) + (-1)) d_M_feign_116 rfl rfl ?_
        refine hg_goto (tgt := 82) d_M_feign_119 (by decide) ?_
        rw [show nI s + (-1) = nI s - 1 from (Int32.sub_eq_add_neg _ _).symm]
        have hok : ¬ sp_fok tw σ m s = true := by unfold sp_fok; rw [Bool.and_eq_true]; exact fun z => hu z.2
        exact ih c L (by omega) (by rw [← hc, show hs_cnt (sp_fok tw σ m) (s + 1) = hs_cnt (sp_fok tw σ m) s from if_neg hok]) (hs_dn_f hL hok)
theorem m_M_feign1 {m b : Nat} (hX : hg_XS T X) (hR : hg_SR T Rf) (hO : hs_ok T σ) (hw : hs_wk σ ≤ 9999) (hT : hs_MT T tw I) (hb : hs_Lb σ a0 a2 a4) (hm0 : 0 < m) (hm : m ≤ 6) (hb2 : b < 2) : ∀ (r s : Nat) (I1 : Nat → Nat → Nat → Int32), s + r = (2 ^ hs_n σ) → hs_MG σ a0 a2 a4 I1 → hm_s I1 I → (∀ s2, s2 < s → hs_sub s2 (hs_opn σ (hs_n σ)) = true → ∀ h, h < hs_n σ → I1 22 25 (6 * s2 + h) = hs_hv (sp_fg tw σ m s2) h 4) → hg_WP l E (d + 8) Y_M_feign 0 0 32 [some (.ref (hg_ad E 21 0)), some (.int (nI m)), some (.int (nI b)), some (.int (nI (hs_opn σ (hs_n σ)))), some (.int (nI s)), none, none] [] (I1, Lg, Rf, X) (hg_i (fun v M' => v = sp_feign tw σ (nI m) (nI b) ∧ ∃ I' : Nat → Nat → Nat → Int32, M' = (I', Lg, Rf, X) ∧ hs_MG σ a0 a2 a4 I' ∧ hm_s I' I)) := by
  have hn6 := hO.1
  have ho64 := hs_opn_64 (σ := σ) hn6
  have hN64 : (2 ^ hs_n σ) ≤ 64 := Nat.le_trans (Nat.pow_le_pow_right (by decide) hn6) (by decide)
  have hoN := hs_opn_lt σ (hs_n σ)
  intro r
  induction r with
  | zero =>
    intro s I1 hsr hg hs1 hd
    obtain rfl : s = (2 ^ hs_n σ) := by omega
    refine hg_iload4 d_M_feign_32 ?_
    refine hg_iconst (v := 1) d_M_feign_34 (by decide) ?_
    refine hg_aload0 d_M_feign_35 ?_
    refine hg_getI d_M_feign_36 f_M_108 rfl rfl (hX.lt (n := 1) ⟨by decide, by decide⟩ rfl (by omega)) ?_
    refine hg_eq1 (y := nI (hs_n σ)) (hg.1.1) ?_
    refine hg_ishl d_M_feign_39 ?_
    refine hg_eq1 (y := nI (2 ^ hs_n σ)) (fg_pow _ (by omega)) ?_
    refine hg_icmp_ge (tgt := 65) d_M_feign_40 (by decide) (fun h_1 => ?_) (fun h_1 => absurd (Int32.le_refl _) h_1)
    refine hg_iconst (v := 0) d_M_feign_65 (by decide) ?_
    refine hg_istore4 d_M_feign_66 rfl ?_
    refine hg_bipush (v := (-5)) d_M_feign_68 (by decide) ?_
    refine hg_istore5 d_M_feign_70 rfl ?_
    refine hg_iconst (v := 1) d_M_feign_72 (by decide) ?_
    refine hg_aload0 d_M_feign_73 ?_
    refine hg_getI d_M_feign_74 f_M_108 rfl rfl (hX.lt (n := 1) ⟨by decide, by decide⟩ rfl (by omega)) ?_
    refine hg_eq1 (y := nI (hs_n σ)) (hg.1.1) ?_
    refine hg_ishl d_M_feign_77 ?_
    refine hg_eq1 (y := nI (2 ^ hs_n σ)) (fg_pow _ (by omega)) ?_
    refine hg_iconst (v := 1) d_M_feign_78 (by decide) ?_
    refine hg_isub d_M_feign_79 ?_
    refine hg_istore6 d_M_feign_80 rfl ?_
    exact m_M_feign2 hX hR hO hw hT hb hm0 hm hb2 hg hs1 (fun s2 hle hsub2 => hd s2 (by omega) hsub2) (2 ^ hs_n σ) 0 (-5) (Nat.le_refl _) (Nat.zero_add _) (hs_dn_0 _)
  | succ r ih =>
    intro s I1 hsr hg hs1 hd
    have hsb := fg_sub s (by omega) _ ho64
    refine hg_iload4 d_M_feign_32 ?_
    refine hg_iconst (v := 1) d_M_feign_34 (by decide) ?_
    refine hg_aload0 d_M_feign_35 ?_
    refine hg_getI d_M_feign_36 f_M_108 rfl rfl (hX.lt (n := 1) ⟨by decide, by decide⟩ rfl (by omega)) ?_
    refine hg_eq1 (y := nI (hs_n σ)) (hg.1.1) ?_
    refine hg_ishl d_M_feign_39 ?_
    refine hg_eq1 (y := nI (2 ^ hs_n σ)) (fg_pow _ (by omega)) ?_
    refine hg_icmp_ge (tgt := 65) d_M_feign_40 (by decide) (fun h_2 => absurd h_2 (nI_ge (by omega) (by omega))) (fun h_2 => ?_)
    refine hg_iload4 d_M_feign_43 ?_
    refine hg_iload3 d_M_feign_45 ?_
    refine hg_iconst (v := (-1)) d_M_feign_46 (by decide) ?_
    refine hg_ixor d_M_feign_47 ?_
    refine hg_iand d_M_feign_48 ?_
    refine hg_if_ne (tgt := 59) d_M_feign_49 (by decide) (fun hsu => ?_) (fun hsu => ?_)
    · refine hg_iinc4 (v := nI (s + 1)) d_M_feign_59 rfl (nI_add _ _) ?_
      refine hg_goto (tgt := 32) d_M_feign_62 (by decide) ?_
      refine ih (s + 1) I1 (by omega) hg hs1 (fun s2 h2 hsb2 h hh => ?_)
      by_cases e : s2 = s
      · subst e; exact absurd (hsb.mpr hsb2) hsu
      · exact hd s2 (by omega) hsb2 h hh
    · replace hsu := Decidable.not_not.mp hsu
      refine hg_aload0 d_M_feign_52 ?_
      refine hg_iload4 d_M_feign_53 ?_
      refine hg_iload1 d_M_feign_55 ?_
      refine hg_cVv d_M_feign_56 l_M_276 rfl rfl (hX.lt (n := 1) ⟨by decide, by decide⟩ rfl (by omega)) rfl (Nat.le_of_ble_eq_true rfl) (m_M_feigns (tw := tw) (s := s) (m := m) hX hR hO hw (hT.s hs1) hb (by omega) (hsb.mp hsu) hm0 hm hg) rfl ?_
      rintro _ ⟨I2, rfl, hg2, hs2, hd2, hd3⟩
      refine hg_iinc4 (v := nI (s + 1)) d_M_feign_59 rfl (nI_add _ _) ?_
      refine hg_goto (tgt := 32) d_M_feign_62 (by decide) ?_
      refine ih (s + 1) I2 (by omega) hg2 (hs2.tr hs1) (fun s2 h2 hsb2 h hh => ?_)
      by_cases e : s2 = s
      · subst e; exact hd2 h hh
      · rw [hd3 _ (by omega)]; exact hd s2 (by omega) hsb2 h hh
theorem m_M_in16 {x : Int32} : hg_MC l E (d + 1) Y_M_within 0 0 [.int x, .int 1, .int 6] (I, Lg, Rf, X) (hg_i (hg_bo (∃ j : Nat, 0 < j ∧ j ≤ 6 ∧ x = nI j) (I, Lg, Rf, X))) := by
  have e : (1 ≤ x ∧ x ≤ 6) ↔ ∃ j : Nat, 0 < j ∧ j ≤ 6 ∧ x = nI j :=
    ⟨fun ⟨h1, h2⟩ => hg_in1 (b := 6) (by decide) (Int32.not_lt.mpr h1) h2, fun ⟨j, h0, h1, h2⟩ => by rw [h2]; exact ⟨nI_le (a := 1) h0 (by omega), nI_le (b := 6) h1 (by decide)⟩⟩
  refine m_M_within.imp ?_
  rintro _ _ ⟨v, rfl, h, rfl⟩
  exact ⟨v, rfl, h.imp (fun q => ⟨e.mp q.1, q.2⟩) (fun q => ⟨fun z => q.1 (e.mpr z), q.2⟩), rfl⟩
theorem m_M_feign {n x : Int32} (hX : hg_XS (gT G) X) (hR : hg_SR (gT G) Rf) (hM0 : hs_MR G I Lg) (hG : hs_gok G) : hg_MC l E (d + 9) Y_M_feign 0 0 [.ref (hg_ad E 21 0), .int n, .int x] (I, Lg, Rf, X) (hg_i (fun v M' => hs_MP v (sp_feign (gW G) (gN G) n x) G I Lg Rf X M')) := by
  have hM := hM0.1.1
  have hO := hG.1
  have hn6 := hO.1
  have hT := hM0.2.2.2.2.2.2.2
  have hw := hG.2.1
  have hL0 := hG.2.2.2.1 0 (by decide)
  have hL2 := hG.2.2.2.1 2 (by decide)
  have hL4 := hG.2.2.2.1 4 (by decide)
  replace hL0 : (gL G 0).1 ≤ 5 := hL0
  replace hL2 : (gL G 2).1 ≤ 10 := hL2
  replace hL4 : (gL G 4).1 ≤ 8 := hL4
  have hLb : hs_Lb (gN G) (gL G 0) (gL G 2) (gL G 4) := ⟨hn6, hL0, hL2, hL4⟩
  refine hg_mc k_M_feign (Nat.le_of_ble_eq_true rfl) ?_
  show hg_WP l E _ Y_M_feign 0 0 0 [some (.ref (hg_ad E 21 0)), some (.int n), some (.int x), none, none, none, none] [] (I, Lg, Rf, X) _
  refine hg_iload2 d_M_feign_0 ?_
  refine hg_iconst (v := 0) d_M_feign_1 (by decide) ?_
  refine hg_iconst (v := 1) d_M_feign_2 (by decide) ?_
  refine hg_cSi d_M_feign_3 l_M_111 rfl (Nat.le_of_ble_eq_true rfl) (m_M_in0 (b := 1) (by decide)) rfl ?_
  rintro _ _ ⟨⟨hhc, rfl⟩ | ⟨hhc, rfl⟩, rfl⟩
  · obtain ⟨b, hb, eb⟩ := hhc
    have ihc : hs_ix 2 x = some b := by rw [eb]; exact hs_ix_s (by omega) (by decide)
    subst eb
    show hg_WP l E _ Y_M_feign 0 0 6 [some (.ref (hg_ad E 21 0)), some (.int n), some (.int (nI b)), none, none, none, none] [.int 1] (I, Lg, Rf, X) _
    refine hg_if_ne (tgt := 11) d_M_feign_6 (by decide) (fun h_1 => ?_) (fun h_1 => absurd (by decide) h_1)
    refine hg_iload1 d_M_feign_11 ?_
    refine hg_iconst (v := 1) d_M_feign_12 (by decide) ?_
    refine hg_bipush (v := 6) d_M_feign_13 (by decide) ?_
    refine hg_cSi d_M_feign_15 l_M_111 rfl (Nat.le_of_ble_eq_true rfl) (m_M_in16) rfl ?_
    rintro _ _ ⟨⟨ha, rfl⟩ | ⟨ha, rfl⟩, rfl⟩
    · obtain ⟨m, hm0, hm, em⟩ := ha
      subst em
      show hg_WP l E _ Y_M_feign 0 0 18 [some (.ref (hg_ad E 21 0)), some (.int (nI m)), some (.int (nI b)), none, none, none, none] [.int 1] (I, Lg, Rf, X) _
      refine hg_if_ne (tgt := 24) d_M_feign_18 (by decide) (fun h_2 => ?_) (fun h_2 => absurd (by decide) h_2)
      refine hg_aload0 d_M_feign_24 ?_
      refine hg_cVi d_M_feign_25 l_M_273 rfl rfl (hX.lt (n := 1) ⟨by decide, by decide⟩ rfl (by omega)) rfl (Nat.le_of_ble_eq_true rfl) (m_M_openOnes hX hR hO hM) rfl ?_
      rintro _ _ ⟨rfl, rfl⟩
      refine hg_istore3 d_M_feign_28 rfl ?_
      refine hg_iconst (v := 0) d_M_feign_29 (by decide) ?_
      refine hg_istore4 d_M_feign_30 rfl ?_
      refine hg_WP_imp (m_M_feign1 hX hR hO hw hT hLb hm0 hm (by omega) (2 ^ hs_n (gN G)) 0 I (Nat.zero_add _) hM0.1 hm_s.rf (fun s2 h2 => absurd h2 (Nat.not_lt_zero _))) ?_
      rintro _ _ ⟨v, rfl, e, I4, rfl, hg4, hs4⟩; exact ⟨v, rfl, e, I4, Lg, rfl, hM0.Z hg4 hs4, hs4.lo, fun _ _ => rfl⟩
    · refine hg_if_ne (tgt := 24) d_M_feign_18 (by decide) (fun h_3 => absurd h_3 (by decide)) (fun h_3 => ?_)
      refine hg_bipush (v := (-2)) d_M_feign_21 (by decide) ?_
      refine hg_ireturn d_M_feign_23 rfl rfl ?_
      refine ⟨?_, I, Lg, rfl, hM0, fun _ _ => rfl, fun _ _ => rfl⟩
      unfold sp_feign; rw [ihc]; cases z : hs_ix 7 n with
      | none => rfl
      | some m => show (-2 : Int32) = (if m = 0 then _ else _); rw [if_pos (Classical.byContradiction fun y => ha ⟨m, by omega, by have := (hs_ix_of z).1; omega, (hs_ix_of z).2⟩)]
  · have ihc : hs_ix 2 x = none := hs_ix_n2 hhc
    refine hg_if_ne (tgt := 11) d_M_feign_6 (by decide) (fun h_4 => absurd h_4 (by decide)) (fun h_4 => ?_)
    refine hg_iconst (v := (-1)) d_M_feign_9 (by decide) ?_
    refine hg_ireturn d_M_feign_10 rfl rfl ?_
    refine ⟨?_, I, Lg, rfl, hM0, fun _ _ => rfl, fun _ _ => rfl⟩
    simp [sp_feign, ihc]

end M42
