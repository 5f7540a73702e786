/-! the model: image, undo, told, count, trace, taken, looked -/
section M36
variable {l : Launch} {E : hg_E} {d : Nat}
variable {I : Nat → Nat → Nat → Int32} {Lg : Nat → Nat → Nat → Int64} {Rf : Nat → Nat → Nat → Option (Nat × Nat)} {X : Nat × (Nat → Nat) × (Nat → Nat → Nat)}
variable {G : hs_G}variable {I' I1 : Nat → Nat → Nat → Int32} {Lg' : Nat → Nat → Nat → Int64} {σ : hs_S}
theorem hs_MR.im (h : hs_MR G I Lg) (e1 : ∀ r, r ≠ 23 → I' 22 r = I 22 r) (e2 : ∀ j, j ≠ 41 → I' 21 0 j = I 21 0 j) (h41 : I' 21 0 41 = 1) (hi : hs_MI (gN G) (gL G 0) (gL G 2) (gL G 4) (I' 22 23)) : hs_MR (gsM G) I' Lg := by
  obtain ⟨g, h1, h2, h3, h4, h5, h6, h7⟩ := h
  exact ⟨g.kp (fun j _ => e2 j (by omega)) (fun r _ => e1 r (by omega)), h41, fun _ => hi, by rw [e2 14 (by omega), e1 9 (by omega)]; exact h3, by rw [e2 20 (by omega)]; exact h4, by rw [e2 39 (by omega), e1 22 (by omega)]; exact h5, fun t ht => (h6 t ht).kp (e1 26 (by omega)) (e1 27 (by omega)) rfl, h7.kp (e2 28 (by omega)) (fun r _ _ => e1 r (by omega))⟩
theorem m_M_inm {x : Int32} {m : Nat} (hm : m ≤ 2 ^ 30) : hg_MC l E (d + 1) Y_M_within 0 0 [.int x, .int 0, .int (nI m - 1)] (I, Lg, Rf, X) (hg_i (hg_bo (∃ j : Nat, j < m ∧ x = nI j) (I, Lg, Rf, X))) := by
  refine m_M_within.imp ?_
  rintro _ _ ⟨v, rfl, h, rfl⟩
  exact ⟨v, rfl, h.imp (fun q => ⟨(hg_in0 hm).mp q.1, q.2⟩) (fun q => ⟨fun z => q.1 ((hg_in0 hm).mpr z), q.2⟩), rfl⟩
theorem hm_min {b n : Nat} (hb : b < 2 ^ 31) (hn : n < 2 ^ 31) : (if nI n < nI b then nI n else nI b) = nI (min n b) := by
  split
  · rename_i h; rw [Nat.min_eq_left (Nat.le_of_lt ((nI_ltI hn hb).mp h))]
  · rename_i h; rw [Nat.min_eq_right (Nat.le_of_not_lt (fun z => h ((nI_ltI hn hb).mpr z)))]
theorem m_M_image (hX : hg_XS (gT G) X) (hR : hg_SR (gT G) Rf) (hM0 : hs_MR G I Lg) (hG : hs_gok G) : hg_MC l E (d + 2) Y_M_image 0 0 [.ref (hg_ad E 21 0)] (I, Lg, Rf, X) (hg_i (fun v M' => hs_MP v (so_image G).1 (so_image G).2 I Lg Rf X M')) := by
  have hM := hM0.1.1
  have hO := hG.1
  have hn6 := hO.1
  have hT := hM0.2.2.2.2.2.2.2
  have hw := hG.2.1
  have hL0 := hG.2.2.2.1 0 (by decide)
  have hL2 := hG.2.2.2.1 2 (by decide)
  have hL4 := hG.2.2.2.1 4 (by decide)
  replace hL0 : (gL G 0).1 ≤ 5 := hL0
  replace hL2 : (gL G 2).1 ≤ 10 := hL2
  replace hL4 : (gL G 4).1 ≤ 8 := hL4
  have hLb : hs_Lb (gN G) (gL G 0) (gL G 2) (gL G 4) := ⟨hn6, hL0, hL2, hL4⟩
  refine hg_mc k_M_image (Nat.le_of_ble_eq_true rfl) ?_
  show hg_WP l E _ Y_M_image 0 0 0 [some (.ref (hg_ad E 21 0))] [] (I, Lg, Rf, X) _
  refine hg_aload0 d_M_image_0 ?_
  refine hg_iconst (v := 1) d_M_image_1 (by decide) ?_
  refine hg_putI d_M_image_2 f_M_300 rfl rfl (Or.inl rfl) rfl rfl (hX.lt (n := 1) ⟨by decide, by decide⟩ rfl (by omega)) ?_
  refine hg_aload0 d_M_image_5 ?_
  refine hg_aload0 d_M_image_6 ?_
  refine hg_getR d_M_image_7 f_M_85 rfl rfl (hX.lt (n := 1) ⟨by decide, by decide⟩ rfl (by omega)) (hR.m (j := 42) (q := (22, 23)) rfl) ?_
  have g1 : hs_MG (gN G) (gL G 0) (gL G 2) (gL G 4) (hg_u3 I 21 0 41 1) := hM0.1.kp (fun j hj => by rw [hg_u3r, if_neg (by omega)]) (fun r _ => by funext z; rw [hg_u3k (by omega)])
  refine hg_cVv d_M_image_10 l_M_263 rfl rfl (hX.lt (n := 1) ⟨by decide, by decide⟩ rfl (by omega)) rfl (Nat.le_of_ble_eq_true rfl) (m_M_keep23_ hX hR g1 hLb) rfl ?_
  rintro _ ⟨I2, rfl, hk, hi⟩
  have g2 := g1.r hk (by decide)
  refine hg_aload0 d_M_image_13 ?_
  refine hg_getI d_M_image_14 f_M_108 rfl rfl (hX.lt (n := 1) ⟨by decide, by decide⟩ rfl (by omega)) ?_
  refine hg_eq1 (y := nI (hs_n (gN G))) (g2.1.1) ?_
  refine hg_ireturn d_M_image_17 rfl rfl ?_
  have hz : so_image G = (nI (hs_n (gN G)), gsM G) := rfl
  rw [hz]
  exact ⟨rfl, I2, Lg, rfl, hM0.im (fun r hr => (hk 22 r (by omega)).trans (by funext z; rw [hg_u3k (by omega)])) (fun j hj => (congrFun (hk 21 0 (by omega)) j).trans (by rw [hg_u3r, if_neg hj])) ((congrFun (hk 21 0 (by omega)) 41).trans (by rw [hg_u3s])) hi, fun k h => funext fun q => (hk k q (by omega)).trans (by funext z; rw [hg_u3k (by omega)]), fun _ _ => rfl⟩

theorem m_M_undo (hX : hg_XS (gT G) X) (hR : hg_SR (gT G) Rf) (hM0 : hs_MR G I Lg) (hG : hs_gok G) : hg_MC l E (d + 2) Y_M_undo 0 0 [.ref (hg_ad E 21 0)] (I, Lg, Rf, X) (hg_i (fun v M' => hs_MP v (so_undo G).1 (so_undo G).2 I Lg Rf X M')) := by
  have hM := hM0.1.1
  have hO := hG.1
  have hn6 := hO.1
  have hT := hM0.2.2.2.2.2.2.2
  have hw := hG.2.1
  have hL0 := hG.2.2.2.1 0 (by decide)
  have hL2 := hG.2.2.2.1 2 (by decide)
  have hL4 := hG.2.2.2.1 4 (by decide)
  replace hL0 : (gL G 0).1 ≤ 5 := hL0
  replace hL2 : (gL G 2).1 ≤ 10 := hL2
  replace hL4 : (gL G 4).1 ≤ 8 := hL4
  have hLb : hs_Lb (gN G) (gL G 0) (gL G 2) (gL G 4) := ⟨hn6, hL0, hL2, hL4⟩
  refine hg_mc k_M_undo (Nat.le_of_ble_eq_true rfl) ?_
  show hg_WP l E _ Y_M_undo 0 0 0 [some (.ref (hg_ad E 21 0))] [] (I, Lg, Rf, X) _
  refine hg_aload0 d_M_undo_0 ?_
  refine hg_getI d_M_undo_1 f_M_300 rfl rfl (hX.lt (n := 1) ⟨by decide, by decide⟩ rfl (by omega)) ?_
  by_cases hH : gH G = true
  · refine hg_eq1 (y := 1) (hM0.2.1.trans (if_pos hH)) ?_
    refine hg_if_ne (tgt := 10) d_M_undo_4 (by decide) (fun h_1 => ?_) (fun h_1 => absurd (by decide) h_1)
    refine hg_aload0 d_M_undo_10 ?_
    refine hg_aload0 d_M_undo_11 ?_
    refine hg_getR d_M_undo_12 f_M_85 rfl rfl (hX.lt (n := 1) ⟨by decide, by decide⟩ rfl (by omega)) (hR.m (j := 42) (q := (22, 23)) rfl) ?_
    have hb2 : hs_Lb (gI G) (gL G 1) (gL G 3) (gL G 5) := ⟨(hG.2.2.1 hH).1.1, hG.2.2.2.1 1 (by decide), hG.2.2.2.1 3 (by decide), hG.2.2.2.1 5 (by decide)⟩
    refine hg_cVv d_M_undo_15 l_M_267 rfl rfl (hX.lt (n := 1) ⟨by decide, by decide⟩ rfl (by omega)) rfl (Nat.le_of_ble_eq_true rfl) (m_M_again23_ hX hR (hM0.2.2.1 hH) hb2) rfl ?_
    rintro _ ⟨I2, rfl, g2, hk⟩
    refine hg_aload0 d_M_undo_18 ?_
    refine hg_getI d_M_undo_19 f_M_108 rfl rfl (hX.lt (n := 1) ⟨by decide, by decide⟩ rfl (by omega)) ?_
    refine hg_eq1 (y := nI (hs_n (gI G))) (g2.1.1) ?_
    refine hg_ireturn d_M_undo_22 rfl rfl ?_
    have hz : so_undo G = (nI (hs_n (gI G)), gsU G) := if_pos hH
    rw [hz]
    exact ⟨rfl, I2, Lg, rfl, ⟨g2, hM0.2.s hk.s⟩, hk.s.lo, fun _ _ => rfl⟩
  · refine hg_eq1 (y := 0) (hM0.2.1.trans (if_neg hH)) ?_
    refine hg_if_ne (tgt := 10) d_M_undo_4 (by decide) (fun h_2 => absurd h_2 (by decide)) (fun h_2 => ?_)
    refine hg_bipush (v := (-3)) d_M_undo_7 (by decide) ?_
    refine hg_ireturn d_M_undo_9 rfl rfl ?_
    have hz : so_undo G = (-3, G) := if_neg hH
    rw [hz]
    exact ⟨rfl, I, Lg, rfl, hM0, fun _ _ => rfl, fun _ _ => rfl⟩

theorem m_M_told {w : Int32} (hX : hg_XS (gT G) X) (hR : hg_SR (gT G) Rf) (hM0 : hs_MR G I Lg) (hG : hs_gok G) : hg_MC l E (d + 8) Y_M_told 0 0 [.ref (hg_ad E 21 0), .int w] (I, Lg, Rf, X) (hg_i (fun v M' => hs_MP v (sp_told (gW G) (gN G) w) G I Lg Rf X M')) := by
  have hM := hM0.1.1
  have hO := hG.1
  have hn6 := hO.1
  have hT := hM0.2.2.2.2.2.2.2
  have hw := hG.2.1
  refine hg_mc k_M_told (Nat.le_of_ble_eq_true rfl) ?_
  show hg_WP l E _ Y_M_told 0 0 0 [some (.ref (hg_ad E 21 0)), some (.int w)] [] (I, Lg, Rf, X) _
  refine hg_iload1 d_M_told_0 ?_
  rcases hg_sw7 w with hsw | ⟨j, hj, rfl⟩
  · refine hg_tabO (tgt := 79) d_M_told_1 (hsw) (by decide) ?_
    refine hg_aload0 d_M_told_79 ?_
    refine hg_iload1 d_M_told_80 ?_
    refine hg_bipush (v := 10) d_M_told_81 (by decide) ?_
    refine hg_isub d_M_told_83 ?_
    refine hg_cVi d_M_told_84 l_M_115 rfl rfl (hX.lt (n := 1) ⟨by decide, by decide⟩ rfl (by omega)) rfl (Nat.le_of_ble_eq_true rfl) (m_M_isOne hX hM.1 hn6) rfl ?_
    rintro _ _ ⟨⟨hk0, rfl⟩ | ⟨hk0, rfl⟩, rfl⟩
    · obtain ⟨k, hk, ek⟩ := hk0
      refine hg_if_eq (tgt := 102) d_M_told_87 (by decide) (fun h_1 => absurd h_1 (by decide)) (fun h_1 => ?_)
      refine hg_aload0 d_M_told_90 ?_
      refine hg_getR d_M_told_91 f_M_36 rfl rfl (hX.lt (n := 1) ⟨by decide, by decide⟩ rfl (by omega)) (hR.m (j := 9) (q := (22, 8)) rfl) ?_
      refine hg_iload1 d_M_told_94 ?_
      refine hg_bipush (v := 10) d_M_told_95 (by decide) ?_
      refine hg_isub d_M_told_97 ?_
      refine hg_eq1 (y := nI k) (ek) ?_
      refine hg_iald_n (j := k) d_M_told_98 rfl rfl (hX.lt (n := 28) ⟨by decide, by decide⟩ rfl (by omega)) (hX.jn (n := 6) (by decide) rfl (by omega)) ?_
      refine hg_eq1 (y := nI (hs_st (gN G) k)) (hM.2.2.2.2.2.2.1 k hk) ?_
      refine hg_goto (tgt := 103) d_M_told_99 (by decide) ?_
      refine hg_ireturn d_M_told_103 rfl rfl ?_
      refine ⟨?_, I, Lg, rfl, hM0, fun _ _ => rfl, fun _ _ => rfl⟩
      unfold sp_told
      have hne : ∀ j : Nat, j < 7 → w ≠ nI j := fun j hj e => by rw [e, nI_toInt (by omega)] at hsw; omega
      rw [if_neg (show ¬ w = 0 from hne 0 (by decide)), if_neg (show ¬ w = 1 from hne 1 (by decide)), if_neg (show ¬ w = 2 from hne 2 (by decide)), if_neg (show ¬ w = 3 from hne 3 (by decide)), if_neg (show ¬ w = 4 from hne 4 (by decide)), if_neg (show ¬ w = 5 from hne 5 (by decide)), if_neg (show ¬ w = 6 from hne 6 (by decide))]
      rw [ek, hs_ix_s hk (by omega)]
    · refine hg_if_eq (tgt := 102) d_M_told_87 (by decide) (fun h_2 => ?_) (fun h_2 => absurd (by decide) h_2)
      refine hg_iconst (v := (-1)) d_M_told_102 (by decide) ?_
      refine hg_ireturn d_M_told_103 rfl rfl ?_
      refine ⟨?_, I, Lg, rfl, hM0, fun _ _ => rfl, fun _ _ => rfl⟩
      unfold sp_told
      have hne : ∀ j : Nat, j < 7 → w ≠ nI j := fun j hj e => by rw [e, nI_toInt (by omega)] at hsw; omega
      rw [if_neg (show ¬ w = 0 from hne 0 (by decide)), if_neg (show ¬ w = 1 from hne 1 (by decide)), if_neg (show ¬ w = 2 from hne 2 (by decide)), if_neg (show ¬ w = 3 from hne 3 (by decide)), if_neg (show ¬ w = 4 from hne 4 (by decide)), if_neg (show ¬ w = 5 from hne 5 (by decide)), if_neg (show ¬ w = 6 from hne 6 (by decide))]
      rw [hs_ix_n hk0]
  · have h11 : j = 0 ∨ j = 1 ∨ j = 2 ∨ j = 3 ∨ j = 4 ∨ j = 5 ∨ j = 6 := by omega
    rcases h11 with rfl | rfl | rfl | rfl | rfl | rfl | rfl
    · refine hg_tabI (off := 43) (tgt := 44) d_M_told_1 (by decide) (by decide) rfl (by decide) ?_
      refine hg_aload0 d_M_told_44 ?_
      refine hg_getI d_M_told_45 f_M_214 rfl rfl (hX.lt (n := 1) ⟨by decide, by decide⟩ rfl (by omega)) ?_
      refine hg_eq1 (y := nI (hs_wk (gN G))) (hM.2.2.2.2.1) ?_
      refine hg_ireturn d_M_told_48 rfl rfl ?_
      refine ⟨?_, I, Lg, rfl, hM0, fun _ _ => rfl, fun _ _ => rfl⟩
      simp [sp_told, nI]
    · refine hg_tabI (off := 48) (tgt := 49) d_M_told_1 (by decide) (by decide) rfl (by decide) ?_
      refine hg_aload0 d_M_told_49 ?_
      refine hg_cVi d_M_told_50 l_M_233 rfl rfl (hX.lt (n := 1) ⟨by decide, by decide⟩ rfl (by omega)) rfl (Nat.le_of_ble_eq_true rfl) (m_M_illFrom hX hR hM hO hT) rfl ?_
      rintro _ _ ⟨rfl, rfl⟩
      refine hg_ireturn d_M_told_53 rfl rfl ?_
      refine ⟨?_, I, Lg, rfl, hM0, fun _ _ => rfl, fun _ _ => rfl⟩
      simp [sp_told, nI]
    · refine hg_tabI (off := 53) (tgt := 54) d_M_told_1 (by decide) (by decide) rfl (by decide) ?_
      refine hg_aload0 d_M_told_54 ?_
      refine hg_getI d_M_told_55 f_M_236 rfl rfl (hX.lt (n := 1) ⟨by decide, by decide⟩ rfl (by omega)) ?_
      refine hg_eq1 (y := nI (hs_p (gN G))) (hM.2.1) ?_
      refine hg_ireturn d_M_told_58 rfl rfl ?_
      refine ⟨?_, I, Lg, rfl, hM0, fun _ _ => rfl, fun _ _ => rfl⟩
      simp [sp_told, nI]
    · refine hg_tabI (off := 58) (tgt := 59) d_M_told_1 (by decide) (by decide) rfl (by decide) ?_
      refine hg_aload0 d_M_told_59 ?_
      refine hg_getI d_M_told_60 f_M_248 rfl rfl (hX.lt (n := 1) ⟨by decide, by decide⟩ rfl (by omega)) ?_
      refine hg_eq1 (y := nI (hs_hu (gN G))) (hM.2.2.1) ?_
      refine hg_ireturn d_M_told_63 rfl rfl ?_
      refine ⟨?_, I, Lg, rfl, hM0, fun _ _ => rfl, fun _ _ => rfl⟩
      simp [sp_told, nI]
    · refine hg_tabI (off := 63) (tgt := 64) d_M_told_1 (by decide) (by decide) rfl (by decide) ?_
      refine hg_aload0 d_M_told_64 ?_
      refine hg_getI d_M_told_65 f_M_251 rfl rfl (hX.lt (n := 1) ⟨by decide, by decide⟩ rfl (by omega)) ?_
      refine hg_eq1 (y := nI (hs_cl (gN G))) (hM.2.2.2.1) ?_
      refine hg_ireturn d_M_told_68 rfl rfl ?_
      refine ⟨?_, I, Lg, rfl, hM0, fun _ _ => rfl, fun _ _ => rfl⟩
      simp [sp_told, nI]
    · refine hg_tabI (off := 68) (tgt := 69) d_M_told_1 (by decide) (by decide) rfl (by decide) ?_
      refine hg_aload0 d_M_told_69 ?_
      refine hg_cVi d_M_told_70 l_M_254 rfl rfl (hX.lt (n := 1) ⟨by decide, by decide⟩ rfl (by omega)) rfl (Nat.le_of_ble_eq_true rfl) (m_M_host hX hR hM hO hT (by omega)) rfl ?_
      rintro _ _ ⟨rfl, I2, rfl, hq2⟩
      refine hg_ireturn d_M_told_73 rfl rfl ?_
      refine ⟨?_, I2, Lg, rfl, hM0.Z (hM0.1.e hq2) hq2.s, hq2.s.lo, fun _ _ => rfl⟩
      simp [sp_told, nI]
    · refine hg_tabI (off := 73) (tgt := 74) d_M_told_1 (by decide) (by decide) rfl (by decide) ?_
      refine hg_aload0 d_M_told_74 ?_
      refine hg_cVi d_M_told_75 l_M_242 rfl rfl (hX.lt (n := 1) ⟨by decide, by decide⟩ rfl (by omega)) rfl (Nat.le_of_ble_eq_true rfl) (m_M_ills hX hR hM hO hT (by omega)) rfl ?_
      rintro _ _ ⟨rfl, I2, rfl, hq2⟩
      refine hg_ireturn d_M_told_78 rfl rfl ?_
      refine ⟨?_, I2, Lg, rfl, hM0.Z (hM0.1.e hq2) hq2.s, hq2.s.lo, fun _ _ => rfl⟩
      rw [← hs_bits_mk _ _ hn6]
      simp [sp_told, nI]

theorem m_M_count {w : Int32} (hX : hg_XS (gT G) X) (hR : hg_SR (gT G) Rf) (hM0 : hs_MR G I Lg) (hG : hs_gok G) : hg_MC l E (d + 1) Y_M_count 0 0 [.ref (hg_ad E 21 0), .int w] (I, Lg, Rf, X) (hg_i (fun v M' => hs_MP v (sp_count (hs_n (gN G)) (gT G) (gL G 0) (gL G 2) (gL G 4) (gX G).1 (gK G) w) G I Lg Rf X M')) := by
  have hM := hM0.1.1
  have hO := hG.1
  have hn6 := hO.1
  have hT := hM0.2.2.2.2.2.2.2
  have hw := hG.2.1
  refine hg_mc k_M_count (Nat.le_of_ble_eq_true rfl) ?_
  show hg_WP l E _ Y_M_count 0 0 0 [some (.ref (hg_ad E 21 0)), some (.int w)] [] (I, Lg, Rf, X) _
  refine hg_iload1 d_M_count_0 ?_
  rcases hg_sw7 w with hsw | ⟨j, hj, rfl⟩
  · refine hg_tabO (tgt := 79) d_M_count_1 (hsw) (by decide) ?_
    refine hg_bipush (v := (-2)) d_M_count_79 (by decide) ?_
    refine hg_ireturn d_M_count_81 rfl rfl ?_
    refine ⟨?_, I, Lg, rfl, hM0, fun _ _ => rfl, fun _ _ => rfl⟩
    unfold sp_count; rw [hs_ix_n2 (b := 6) (fun ⟨j, hj, e⟩ => by rw [e, nI_toInt (by omega)] at hsw; omega)]
  · have h11 : j = 0 ∨ j = 1 ∨ j = 2 ∨ j = 3 ∨ j = 4 ∨ j = 5 ∨ j = 6 := by omega
    rcases h11 with rfl | rfl | rfl | rfl | rfl | rfl | rfl
    · refine hg_tabI (off := 43) (tgt := 44) d_M_count_1 (by decide) (by decide) rfl (by decide) ?_
      refine hg_aload0 d_M_count_44 ?_
      refine hg_getI d_M_count_45 f_M_108 rfl rfl (hX.lt (n := 1) ⟨by decide, by decide⟩ rfl (by omega)) ?_
      refine hg_eq1 (y := nI (hs_n (gN G))) (hM.1) ?_
      refine hg_ireturn d_M_count_48 rfl rfl ?_
      refine ⟨?_, I, Lg, rfl, hM0, fun _ _ => rfl, fun _ _ => rfl⟩
      unfold sp_count; rw [hs_ix_s (by decide) (by decide)]; rfl
    · refine hg_tabI (off := 48) (tgt := 49) d_M_count_1 (by decide) (by decide) rfl (by decide) ?_
      refine hg_aload0 d_M_count_49 ?_
      refine hg_getI d_M_count_50 f_M_208 rfl rfl (hX.lt (n := 1) ⟨by decide, by decide⟩ rfl (by omega)) ?_
      refine hg_eq1 (y := nI (gT G)) (hM0.2.2.2.2.1) ?_
      refine hg_ireturn d_M_count_53 rfl rfl ?_
      refine ⟨?_, I, Lg, rfl, hM0, fun _ _ => rfl, fun _ _ => rfl⟩
      unfold sp_count; rw [hs_ix_s (by decide) (by decide)]; rfl
    · refine hg_tabI (off := 53) (tgt := 54) d_M_count_1 (by decide) (by decide) rfl (by decide) ?_
      refine hg_aload0 d_M_count_54 ?_
      refine hg_getI d_M_count_55 f_M_282 rfl rfl (hX.lt (n := 1) ⟨by decide, by decide⟩ rfl (by omega)) ?_
      refine hg_eq1 (y := nI (gL G 0).1) (hM0.1.2.1.1) ?_
      refine hg_ireturn d_M_count_58 rfl rfl ?_
      refine ⟨?_, I, Lg, rfl, hM0, fun _ _ => rfl, fun _ _ => rfl⟩
      unfold sp_count; rw [hs_ix_s (by decide) (by decide)]; rfl
    · refine hg_tabI (off := 58) (tgt := 59) d_M_count_1 (by decide) (by decide) rfl (by decide) ?_
      refine hg_aload0 d_M_count_59 ?_
      refine hg_getI d_M_count_60 f_M_294 rfl rfl (hX.lt (n := 1) ⟨by decide, by decide⟩ rfl (by omega)) ?_
      refine hg_eq1 (y := nI (gL G 2).1) (hM0.1.2.2.1.1) ?_
      refine hg_ireturn d_M_count_63 rfl rfl ?_
      refine ⟨?_, I, Lg, rfl, hM0, fun _ _ => rfl, fun _ _ => rfl⟩
      unfold sp_count; rw [hs_ix_s (by decide) (by decide)]; rfl
    · refine hg_tabI (off := 63) (tgt := 64) d_M_count_1 (by decide) (by decide) rfl (by decide) ?_
      refine hg_aload0 d_M_count_64 ?_
      refine hg_getI d_M_count_65 f_M_297 rfl rfl (hX.lt (n := 1) ⟨by decide, by decide⟩ rfl (by omega)) ?_
      refine hg_eq1 (y := nI (gL G 4).1) (hM0.1.2.2.2.1) ?_
      refine hg_ireturn d_M_count_68 rfl rfl ?_
      refine ⟨?_, I, Lg, rfl, hM0, fun _ _ => rfl, fun _ _ => rfl⟩
      unfold sp_count; rw [hs_ix_s (by decide) (by decide)]; rfl
    · refine hg_tabI (off := 68) (tgt := 69) d_M_count_1 (by decide) (by decide) rfl (by decide) ?_
      refine hg_aload0 d_M_count_69 ?_
      refine hg_getI d_M_count_70 f_M_136 rfl rfl (hX.lt (n := 1) ⟨by decide, by decide⟩ rfl (by omega)) ?_
      refine hg_eq1 (y := nI (gX G).1) (hM0.2.2.2.1.1) ?_
      refine hg_ireturn d_M_count_73 rfl rfl ?_
      refine ⟨?_, I, Lg, rfl, hM0, fun _ _ => rfl, fun _ _ => rfl⟩
      unfold sp_count; rw [hs_ix_s (by decide) (by decide)]; rfl
    · refine hg_tabI (off := 73) (tgt := 74) d_M_count_1 (by decide) (by decide) rfl (by decide) ?_
      refine hg_aload0 d_M_count_74 ?_
      refine hg_getI d_M_count_75 f_M_304 rfl rfl (hX.lt (n := 1) ⟨by decide, by decide⟩ rfl (by omega)) ?_
      refine hg_eq1 (y := nI (gK G).1) (hM0.2.2.2.2.2.1.1) ?_
      refine hg_ireturn d_M_count_78 rfl rfl ?_
      refine ⟨?_, I, Lg, rfl, hM0, fun _ _ => rfl, fun _ _ => rfl⟩
      unfold sp_count; rw [hs_ix_s (by decide) (by decide)]; rfl

theorem m_M_trace {x : Int32} (hX : hg_XS (gT G) X) (hR : hg_SR (gT G) Rf) (hM0 : hs_MR G I Lg) (hG : hs_gok G) : hg_MC l E (d + 2) Y_M_trace 0 0 [.ref (hg_ad E 21 0), .int x] (I, Lg, Rf, X) (hg_i (fun v M' => hs_MP v (sp_trace (gK G) x) G I Lg Rf X M')) := by
  have hM := hM0.1.1
  have hO := hG.1
  have hn6 := hO.1
  have hT := hM0.2.2.2.2.2.2.2
  have hw := hG.2.1
  have hKk := hG.2.2.2.2.2.2.2.2.2.1
  refine hg_mc k_M_trace (Nat.le_of_ble_eq_true rfl) ?_
  show hg_WP l E _ Y_M_trace 0 0 0 [some (.ref (hg_ad E 21 0)), some (.int x)] [] (I, Lg, Rf, X) _
  refine hg_iload1 d_M_trace_0 ?_
  refine hg_iconst (v := 0) d_M_trace_1 (by decide) ?_
  refine hg_bipush (v := 20) d_M_trace_2 (by decide) ?_
  refine hg_aload0 d_M_trace_4 ?_
  refine hg_getI d_M_trace_5 f_M_304 rfl rfl (hX.lt (n := 1) ⟨by decide, by decide⟩ rfl (by omega)) ?_
  refine hg_eq1 (y := nI (gK G).1) (hM0.2.2.2.2.2.1.1) ?_
  refine hg_min d_M_trace_8 l_M_228 (Nat.le_of_ble_eq_true rfl) ?_
  refine hg_eq1 (y := nI (min (gK G).1 20)) (hm_min (b := 20) (by decide) (by omega)) ?_
  refine hg_iconst (v := 1) d_M_trace_11 (by decide) ?_
  refine hg_isub d_M_trace_12 ?_
  refine hg_cSi d_M_trace_13 l_M_111 rfl (Nat.le_of_ble_eq_true rfl) (m_M_inm (m := min (gK G).1 20) (by omega)) rfl ?_
  rintro _ _ ⟨⟨hj0, rfl⟩ | ⟨hj0, rfl⟩, rfl⟩
  · obtain ⟨j, hj, ej⟩ := hj0
    subst ej
    show hg_WP l E _ Y_M_trace 0 0 16 [some (.ref (hg_ad E 21 0)), some (.int (nI j))] [.int 1] (I, Lg, Rf, X) _
    refine hg_if_eq (tgt := 28) d_M_trace_16 (by decide) (fun h_1 => absurd h_1 (by decide)) (fun h_1 => ?_)
    refine hg_aload0 d_M_trace_19 ?_
    refine hg_getR d_M_trace_20 f_M_82 rfl rfl (hX.lt (n := 1) ⟨by decide, by decide⟩ rfl (by omega)) (hR.m (j := 40) (q := (22, 22)) rfl) ?_
    refine hg_iload1 d_M_trace_23 ?_
    refine hg_iald_n (j := j) d_M_trace_24 rfl rfl (hX.lt (n := 28) ⟨by decide, by decide⟩ rfl (by omega)) (hX.jn (n := 20) (by decide) rfl (by omega)) ?_
    refine hg_eq1 (y := (gK G).2 j) (hM0.2.2.2.2.2.1.2 j (by omega)) ?_
    refine hg_goto (tgt := 29) d_M_trace_25 (by decide) ?_
    refine hg_ireturn d_M_trace_29 rfl rfl ?_
    refine ⟨?_, I, Lg, rfl, hM0, fun _ _ => rfl, fun _ _ => rfl⟩
    unfold sp_trace; rw [hs_ix_s hj (by omega)]
  · refine hg_if_eq (tgt := 28) d_M_trace_16 (by decide) (fun h_2 => ?_) (fun h_2 => absurd (by decide) h_2)
    refine hg_iconst (v := (-1)) d_M_trace_28 (by decide) ?_
    refine hg_ireturn d_M_trace_29 rfl rfl ?_
    refine ⟨?_, I, Lg, rfl, hM0, fun _ _ => rfl, fun _ _ => rfl⟩
    unfold sp_trace; rw [hs_ix_n hj0]

theorem m_M_above {x : Int32} : hg_MC l E (d + 1) Y_M_above 0 0 [.int x] (I, Lg, Rf, X) (hg_i (fun v M' => v = (if x = 4 then 1 else if x = 5 then 2 else if x = 6 then 3 else 0) ∧ M' = (I, Lg, Rf, X))) := by
  refine hg_mc k_M_above (Nat.le_of_ble_eq_true rfl) ?_
  show hg_WP l E _ Y_M_above 0 0 0 [some (.int x)] [] (I, Lg, Rf, X) _
  refine hg_iload0 d_M_above_0 ?_
  refine hg_iconst (v := 4) d_M_above_1 (by decide) ?_
  refine hg_icmp_ne (tgt := 9) d_M_above_2 (by decide) (fun h1 => ?_) (fun h1 => ?_)
  · refine hg_iload0 d_M_above_9 ?_
    refine hg_iconst (v := 5) d_M_above_10 (by decide) ?_
    refine hg_icmp_ne (tgt := 18) d_M_above_11 (by decide) (fun h2 => ?_) (fun h2 => ?_)
    · refine hg_iload0 d_M_above_18 ?_
      refine hg_bipush (v := 6) d_M_above_19 (by decide) ?_
      refine hg_icmp_ne (tgt := 28) d_M_above_21 (by decide) (fun h3 => ?_) (fun h3 => ?_)
      · refine hg_iconst (v := 0) d_M_above_28 (by decide) ?_
        refine hg_ireturn d_M_above_29 rfl rfl ?_
        exact ⟨by rw [if_neg h1, if_neg h2, if_neg h3], rfl⟩
      · replace h3 := Decidable.not_not.mp h3
        refine hg_iconst (v := 3) d_M_above_24 (by decide) ?_
        refine hg_goto (tgt := 29) d_M_above_25 (by decide) ?_
        refine hg_ireturn d_M_above_29 rfl rfl ?_
        exact ⟨by rw [if_neg h1, if_neg h2, if_pos h3], rfl⟩
    · replace h2 := Decidable.not_not.mp h2
      refine hg_iconst (v := 2) d_M_above_14 (by decide) ?_
      refine hg_goto (tgt := 29) d_M_above_15 (by decide) ?_
      refine hg_ireturn d_M_above_29 rfl rfl ?_
      exact ⟨by rw [if_neg h1, if_pos h2], rfl⟩
  · replace h1 := Decidable.not_not.mp h1
    refine hg_iconst (v := 1) d_M_above_5 (by decide) ?_
    refine hg_goto (tgt := 29) d_M_above_6 (by decide) ?_
    refine hg_ireturn d_M_above_29 rfl rfl ?_
    exact ⟨(if_pos h1).symm, rfl⟩

theorem m_M_taken {x y : Int32} (hX : hg_XS (gT G) X) (hR : hg_SR (gT G) Rf) (hM0 : hs_MR G I Lg) (hG : hs_gok G) : hg_MC l E (d + 3) Y_M_taken 0 0 [.ref (hg_ad E 21 0), .int x, .int y] (I, Lg, Rf, X) (hg_i (fun v M' => hs_MP v (sp_taken (gN G) x y) G I Lg Rf X M')) := by
  have hM := hM0.1.1
  have hO := hG.1
  have hn6 := hO.1
  have hT := hM0.2.2.2.2.2.2.2
  have hw := hG.2.1
  refine hg_mc k_M_taken (Nat.le_of_ble_eq_true rfl) ?_
  show hg_WP l E _ Y_M_taken 0 0 0 [some (.ref (hg_ad E 21 0)), some (.int x), some (.int y), none] [] (I, Lg, Rf, X) _
  refine hg_iload2 d_M_taken_0 ?_
  refine hg_iconst (v := 0) d_M_taken_1 (by decide) ?_
  refine hg_bipush (v := 6) d_M_taken_2 (by decide) ?_
  refine hg_cSi d_M_taken_4 l_M_111 rfl (Nat.le_of_ble_eq_true rfl) (m_M_in0 (b := 6) (by decide)) rfl ?_
  rintro _ _ ⟨⟨hha, rfl⟩ | ⟨hha, rfl⟩, rfl⟩
  · obtain ⟨j, hj, ej⟩ := hha
    have iha : hs_ix 7 y = some j := by rw [ej]; exact hs_ix_s (by omega) (by decide)
    subst ej
    show hg_WP l E _ Y_M_taken 0 0 7 [some (.ref (hg_ad E 21 0)), some (.int x), some (.int (nI j)), none] [.int 1] (I, Lg, Rf, X) _
    refine hg_if_ne (tgt := 13) d_M_taken_7 (by decide) (fun h_1 => ?_) (fun h_1 => absurd (by decide) h_1)
    refine hg_aload0 d_M_taken_13 ?_
    refine hg_iload1 d_M_taken_14 ?_
    refine hg_cVi d_M_taken_15 l_M_115 rfl rfl (hX.lt (n := 1) ⟨by decide, by decide⟩ rfl (by omega)) rfl (Nat.le_of_ble_eq_true rfl) (m_M_isOne hX hM.1 hn6) rfl ?_
    rintro _ _ ⟨⟨hhb, rfl⟩ | ⟨hhb, rfl⟩, rfl⟩
    · obtain ⟨h, hh, eh⟩ := hhb
      have ihb : hs_ix (hs_n (gN G)) x = some h := by rw [eh]; exact hs_ix_s hh (by omega)
      subst eh
      show hg_WP l E _ Y_M_taken 0 0 18 [some (.ref (hg_ad E 21 0)), some (.int (nI h)), some (.int (nI j)), none] [.int 1] (I, Lg, Rf, X) _
      refine hg_if_ne (tgt := 24) d_M_taken_18 (by decide) (fun h_2 => ?_) (fun h_2 => absurd (by decide) h_2)
      refine hg_aload0 d_M_taken_24 ?_
      refine hg_getR d_M_taken_25 f_M_9 rfl rfl (hX.lt (n := 1) ⟨by decide, by decide⟩ rfl (by omega)) (hR.m (j := 1) (q := (22, 0)) rfl) ?_
      refine hg_iload1 d_M_taken_28 ?_
      refine hg_iald_n (j := h) d_M_taken_29 rfl rfl (hX.lt (n := 28) ⟨by decide, by decide⟩ rfl (by omega)) (hX.jn (n := 6) (by decide) rfl (by omega)) ?_
      refine hg_eq1 (y := hs_hv (gN G) h 0) (hM.2.2.2.2.2.2.2.1 h 0 (by assumption) (by decide)) ?_
      obtain ⟨k, hk, ek⟩ := (hO.2.2.2.2.1 h hh).1
      have h7 : k = 0 ∨ k = 1 ∨ k = 2 ∨ k = 3 ∨ k = 4 ∨ k = 5 ∨ k = 6 := by omega
      have h8 : j = 0 ∨ j = 1 ∨ j = 2 ∨ j = 3 ∨ j = 4 ∨ j = 5 ∨ j = 6 := by omega
      rcases h7 with rfl | rfl | rfl | rfl | rfl | rfl | rfl <;> rcases h8 with rfl | rfl | rfl | rfl | rfl | rfl | rfl
      · refine hg_eq1 (y := 0) ek ?_
        show hg_WP l E _ Y_M_taken 0 0 30 [some (.ref (hg_ad E 21 0)), some (.int (nI h)), some (.int 0), none] [.int 0] (I, Lg, Rf, X) _
        refine hg_istore3 d_M_taken_30 rfl ?_
        refine hg_iload3 d_M_taken_31 ?_
        refine hg_iload2 d_M_taken_32 ?_
        refine hg_icmp_eq (tgt := 48) d_M_taken_33 (by decide) (fun h_3 => ?_) (fun h_3 => absurd (by decide) h_3)
        refine hg_iload3 d_M_taken_48 ?_
        refine hg_iload2 d_M_taken_49 ?_
        refine hg_icmp_ne (tgt := 62) d_M_taken_50 (by decide) (fun h_4 => absurd h_4 (by decide)) (fun h_4 => ?_)
        refine hg_aload0 d_M_taken_53 ?_
        refine hg_getR d_M_taken_54 f_M_9 rfl rfl (hX.lt (n := 1) ⟨by decide, by decide⟩ rfl (by omega)) (hR.m (j := 1) (q := (22, 0)) rfl) ?_
        refine hg_iload1 d_M_taken_57 ?_
        refine hg_iald_n (j := h) d_M_taken_58 rfl rfl (hX.lt (n := 28) ⟨by decide, by decide⟩ rfl (by omega)) (hX.jn (n := 6) (by decide) rfl (by omega)) ?_
        refine hg_eq1 (y := hs_hv (gN G) h 0) (hM.2.2.2.2.2.2.2.1 h 0 (by assumption) (by decide)) ?_
        refine hg_goto (tgt := 64) d_M_taken_59 (by decide) ?_
        refine hg_ireturn d_M_taken_64 rfl rfl ?_
        refine ⟨?_, I, Lg, rfl, hM0, fun _ _ => rfl, fun _ _ => rfl⟩
        unfold sp_taken; rw [iha, ihb]; simp only []; rw [ek, nI_clamp (by decide)]; rfl
      · refine hg_eq1 (y := 0) ek ?_
        show hg_WP l E _ Y_M_taken 0 0 30 [some (.ref (hg_ad E 21 0)), some (.int (nI h)), some (.int 1), none] [.int 0] (I, Lg, Rf, X) _
        refine hg_istore3 d_M_taken_30 rfl ?_
        refine hg_iload3 d_M_taken_31 ?_
        refine hg_iload2 d_M_taken_32 ?_
        refine hg_icmp_eq (tgt := 48) d_M_taken_33 (by decide) (fun h_5 => absurd h_5 (by decide)) (fun h_5 => ?_)
        refine hg_iload3 d_M_taken_36 ?_
        refine hg_if_le (tgt := 48) d_M_taken_37 (by decide) (fun h_6 => ?_) (fun h_6 => absurd (by decide) h_6)
        refine hg_iload3 d_M_taken_48 ?_
        refine hg_iload2 d_M_taken_49 ?_
        refine hg_icmp_ne (tgt := 62) d_M_taken_50 (by decide) (fun h_7 => ?_) (fun h_7 => absurd (by decide) h_7)
        refine hg_bipush (v := (-12)) d_M_taken_62 (by decide) ?_
        refine hg_ireturn d_M_taken_64 rfl rfl ?_
        refine ⟨?_, I, Lg, rfl, hM0, fun _ _ => rfl, fun _ _ => rfl⟩
        unfold sp_taken; rw [iha, ihb]; simp only []; rw [ek, nI_clamp (by decide)]; rfl
      · refine hg_eq1 (y := 0) ek ?_
        show hg_WP l E _ Y_M_taken 0 0 30 [some (.ref (hg_ad E 21 0)), some (.int (nI h)), some (.int 2), none] [.int 0] (I, Lg, Rf, X) _
        refine hg_istore3 d_M_taken_30 rfl ?_
        refine hg_iload3 d_M_taken_31 ?_
        refine hg_iload2 d_M_taken_32 ?_
        refine hg_icmp_eq (tgt := 48) d_M_taken_33 (by decide) (fun h_8 => absurd h_8 (by decide)) (fun h_8 => ?_)
        refine hg_iload3 d_M_taken_36 ?_
        refine hg_if_le (tgt := 48) d_M_taken_37 (by decide) (fun h_9 => ?_) (fun h_9 => absurd (by decide) h_9)
        refine hg_iload3 d_M_taken_48 ?_
        refine hg_iload2 d_M_taken_49 ?_
        refine hg_icmp_ne (tgt := 62) d_M_taken_50 (by decide) (fun h_10 => ?_) (fun h_10 => absurd (by decide) h_10)
        refine hg_bipush (v := (-12)) d_M_taken_62 (by decide) ?_
        refine hg_ireturn d_M_taken_64 rfl rfl ?_
        refine ⟨?_, I, Lg, rfl, hM0, fun _ _ => rfl, fun _ _ => rfl⟩
        unfold sp_taken; rw [iha, ihb]; simp only []; rw [ek, nI_clamp (by decide)]; rfl
      · refine hg_eq1 (y := 0) ek ?_
        show hg_WP l E _ Y_M_taken 0 0 30 [some (.ref (hg_ad E 21 0)), some (.int (nI h)), some (.int 3), none] [.int 0] (I, Lg, Rf, X) _
        refine hg_istore3 d_M_taken_30 rfl ?_
        refine hg_iload3 d_M_taken_31 ?_
        refine hg_iload2 d_M_taken_32 ?_
        refine hg_icmp_eq (tgt := 48) d_M_taken_33 (by decide) (fun h_11 => absurd h_11 (by decide)) (fun h_11 => ?_)
        refine hg_iload3 d_M_taken_36 ?_
        refine hg_if_le (tgt := 48) d_M_taken_37 (by decide) (fun h_12 => ?_) (fun h_12 => absurd (by decide) h_12)
        refine hg_iload3 d_M_taken_48 ?_
        refine hg_iload2 d_M_taken_49 ?_
        refine hg_icmp_ne (tgt := 62) d_M_taken_50 (by decide) (fun h_13 => ?_) (fun h_13 => absurd (by decide) h_13)
        refine hg_bipush (v := (-12)) d_M_taken_62 (by decide) ?_
        refine hg_ireturn d_M_taken_64 rfl rfl ?_
        refine ⟨?_, I, Lg, rfl, hM0, fun _ _ => rfl, fun _ _ => rfl⟩
        unfold sp_taken; rw [iha, ihb]; simp only []; rw [ek, nI_clamp (by decide)]; rfl
      · refine hg_eq1 (y := 0) ek ?_
        show hg_WP l E _ Y_M_taken 0 0 30 [some (.ref (hg_ad E 21 0)), some (.int (nI h)), some (.int 4), none] [.int 0] (I, Lg, Rf, X) _
        refine hg_istore3 d_M_taken_30 rfl ?_
        refine hg_iload3 d_M_taken_31 ?_
        refine hg_iload2 d_M_taken_32 ?_
        refine hg_icmp_eq (tgt := 48) d_M_taken_33 (by decide) (fun h_14 => absurd h_14 (by decide)) (fun h_14 => ?_)
        refine hg_iload3 d_M_taken_36 ?_
        refine hg_if_le (tgt := 48) d_M_taken_37 (by decide) (fun h_15 => ?_) (fun h_15 => absurd (by decide) h_15)
        refine hg_iload3 d_M_taken_48 ?_
        refine hg_iload2 d_M_taken_49 ?_
        refine hg_icmp_ne (tgt := 62) d_M_taken_50 (by decide) (fun h_16 => ?_) (fun h_16 => absurd (by decide) h_16)
        refine hg_bipush (v := (-12)) d_M_taken_62 (by decide) ?_
        refine hg_ireturn d_M_taken_64 rfl rfl ?_
        refine ⟨?_, I, Lg, rfl, hM0, fun _ _ => rfl, fun _ _ => rfl⟩
        unfold sp_taken; rw [iha, ihb]; simp only []; rw [ek, nI_clamp (by decide)]; rfl
      · refine hg_eq1 (y := 0) ek ?_
        show hg_WP l E _ Y_M_taken 0 0 30 [some (.ref (hg_ad E 21 0)), some (.int (nI h)), some (.int 5), none] [.int 0] (I, Lg, Rf, X) _
        refine hg_istore3 d_M_taken_30 rfl ?_
        refine hg_iload3 d_M_taken_31 ?_
        refine hg_iload2 d_M_taken_32 ?_
        refine hg_icmp_eq (tgt := 48) d_M_taken_33 (by decide) (fun h_17 => absurd h_17 (by decide)) (fun h_17 => ?_)
        refine hg_iload3 d_M_taken_36 ?_
        refine hg_if_le (tgt := 48) d_M_taken_37 (by decide) (fun h_18 => ?_) (fun h_18 => absurd (by decide) h_18)
        refine hg_iload3 d_M_taken_48 ?_
        refine hg_iload2 d_M_taken_49 ?_
        refine hg_icmp_ne (tgt := 62) d_M_taken_50 (by decide) (fun h_19 => ?_) (fun h_19 => absurd (by decide) h_19)
        refine hg_bipush (v := (-12)) d_M_taken_62 (by decide) ?_
        refine hg_ireturn d_M_taken_64 rfl rfl ?_
        refine ⟨?_, I, Lg, rfl, hM0, fun _ _ => rfl, fun _ _ => rfl⟩
        unfold sp_taken; rw [iha, ihb]; simp only []; rw [ek, nI_clamp (by decide)]; rfl
      · refine hg_eq1 (y := 0) ek ?_
        show hg_WP l E _ Y_M_taken 0 0 30 [some (.ref (hg_ad E 21 0)), some (.int (nI h)), some (.int 6), none] [.int 0] (I, Lg, Rf, X) _
        refine hg_istore3 d_M_taken_30 rfl ?_
        refine hg_iload3 d_M_taken_31 ?_
        refine hg_iload2 d_M_taken_32 ?_
        refine hg_icmp_eq (tgt := 48) d_M_taken_33 (by decide) (fun h_20 => absurd h_20 (by decide)) (fun h_20 => ?_)
        refine hg_iload3 d_M_taken_36 ?_
        refine hg_if_le (tgt := 48) d_M_taken_37 (by decide) (fun h_21 => ?_) (fun h_21 => absurd (by decide) h_21)
        refine hg_iload3 d_M_taken_48 ?_
        refine hg_iload2 d_M_taken_49 ?_
        refine hg_icmp_ne (tgt := 62) d_M_taken_50 (by decide) (fun h_22 => ?_) (fun h_22 => absurd (by decide) h_22)
        refine hg_bipush (v := (-12)) d_M_taken_62 (by decide) ?_
        refine hg_ireturn d_M_taken_64 rfl rfl ?_
        refine ⟨?_, I, Lg, rfl, hM0, fun _ _ => rfl, fun _ _ => rfl⟩
        unfold sp_taken; rw [iha, ihb]; simp only []; rw [ek, nI_clamp (by decide)]; rfl
      · refine hg_eq1 (y := 1) ek ?_
        show hg_WP l E _ Y_M_taken 0 0 30 [some (.ref (hg_ad E 21 0)), some (.int (nI h)), some (.int 0), none] [.int 1] (I, Lg, Rf, X) _
        refine hg_istore3 d_M_taken_30 rfl ?_
        refine hg_iload3 d_M_taken_31 ?_
        refine hg_iload2 d_M_taken_32 ?_
        refine hg_icmp_eq (tgt := 48) d_M_taken_33 (by decide) (fun h_23 => absurd h_23 (by decide)) (fun h_23 => ?_)
        refine hg_iload3 d_M_taken_36 ?_
        refine hg_if_le (tgt := 48) d_M_taken_37 (by decide) (fun h_24 => absurd h_24 (by decide)) (fun h_24 => ?_)
        refine hg_iload3 d_M_taken_40 ?_
        refine hg_cSi d_M_taken_41 l_M_315 rfl (Nat.le_of_ble_eq_true rfl) (m_M_above) rfl ?_
        rintro _ _ ⟨rfl, rfl⟩
        refine hg_eq1 (y := 0) (by decide) ?_
        refine hg_istore3 d_M_taken_44 rfl ?_
        refine hg_goto (tgt := 31) d_M_taken_45 (by decide) ?_
        refine hg_iload3 d_M_taken_31 ?_
        refine hg_iload2 d_M_taken_32 ?_
        refine hg_icmp_eq (tgt := 48) d_M_taken_33 (by decide) (fun h_25 => ?_) (fun h_25 => absurd (by decide) h_25)
        refine hg_iload3 d_M_taken_48 ?_
        refine hg_iload2 d_M_taken_49 ?_
        refine hg_icmp_ne (tgt := 62) d_M_taken_50 (by decide) (fun h_26 => absurd h_26 (by decide)) (fun h_26 => ?_)
        refine hg_aload0 d_M_taken_53 ?_
        refine hg_getR d_M_taken_54 f_M_9 rfl rfl (hX.lt (n := 1) ⟨by decide, by decide⟩ rfl (by omega)) (hR.m (j := 1) (q := (22, 0)) rfl) ?_
        refine hg_iload1 d_M_taken_57 ?_
        refine hg_iald_n (j := h) d_M_taken_58 rfl rfl (hX.lt (n := 28) ⟨by decide, by decide⟩ rfl (by omega)) (hX.jn (n := 6) (by decide) rfl (by omega)) ?_
        refine hg_eq1 (y := hs_hv (gN G) h 0) (hM.2.2.2.2.2.2.2.1 h 0 (by assumption) (by decide)) ?_
        refine hg_goto (tgt := 64) d_M_taken_59 (by decide) ?_
        refine hg_ireturn d_M_taken_64 rfl rfl ?_
        refine ⟨?_, I, Lg, rfl, hM0, fun _ _ => rfl, fun _ _ => rfl⟩
        unfold sp_taken; rw [iha, ihb]; simp only []; rw [ek, nI_clamp (by decide)]; rfl
      · refine hg_eq1 (y := 1) ek ?_
        show hg_WP l E _ Y_M_taken 0 0 30 [some (.ref (hg_ad E 21 0)), some (.int (nI h)), some (.int 1), none] [.int 1] (I, Lg, Rf, X) _
        refine hg_istore3 d_M_taken_30 rfl ?_
        refine hg_iload3 d_M_taken_31 ?_
        refine hg_iload2 d_M_taken_32 ?_
        refine hg_icmp_eq (tgt := 48) d_M_taken_33 (by decide) (fun h_27 => ?_) (fun h_27 => absurd (by decide) h_27)
        refine hg_iload3 d_M_taken_48 ?_
        refine hg_iload2 d_M_taken_49 ?_
        refine hg_icmp_ne (tgt := 62) d_M_taken_50 (by decide) (fun h_28 => absurd h_28 (by decide)) (fun h_28 => ?_)
        refine hg_aload0 d_M_taken_53 ?_
        refine hg_getR d_M_taken_54 f_M_9 rfl rfl (hX.lt (n := 1) ⟨by decide, by decide⟩ rfl (by omega)) (hR.m (j := 1) (q := (22, 0)) rfl) ?_
        refine hg_iload1 d_M_taken_57 ?_
        refine hg_iald_n (j := h) d_M_taken_58 rfl rfl (hX.lt (n := 28) ⟨by decide, by decide⟩ rfl (by omega)) (hX.jn (n := 6) (by decide) rfl (by omega)) ?_
        refine hg_eq1 (y := hs_hv (gN G) h 0) (hM.2.2.2.2.2.2.2.1 h 0 (by assumption) (by decide)) ?_
        refine hg_goto (tgt := 64) d_M_taken_59 (by decide) ?_
        refine hg_ireturn d_M_taken_64 rfl rfl ?_
        refine ⟨?_, I, Lg, rfl, hM0, fun _ _ => rfl, fun _ _ => rfl⟩
        unfold sp_taken; rw [iha, ihb]; simp only []; rw [ek, nI_clamp (by decide)]; rfl
      · refine hg_eq1 (y := 1) ek ?_
        show hg_WP l E _ Y_M_taken 0 0 30 [some (.ref (hg_ad E 21 0)), some (.int (nI h)), some (.int 2), none] [.int 1] (I, Lg, Rf, X) _
        refine hg_istore3 d_M_taken_30 rfl ?_
        refine hg_iload3 d_M_taken_31 ?_
        refine hg_iload2 d_M_taken_32 ?_
        refine hg_icmp_eq (tgt := 48) d_M_taken_33 (by decide) (fun h_29 => absurd h_29 (by decide)) (fun h_29 => ?_)
        refine hg_iload3 d_M_taken_36 ?_
        refine hg_if_le (tgt := 48) d_M_taken_37 (by decide) (fun h_30 => absurd h_30 (by decide)) (fun h_30 => ?_)
        refine hg_iload3 d_M_taken_40 ?_
        refine hg_cSi d_M_taken_41 l_M_315 rfl (Nat.le_of_ble_eq_true rfl) (m_M_above) rfl ?_
        rintro _ _ ⟨rfl, rfl⟩
        refine hg_eq1 (y := 0) (by decide) ?_
        refine hg_istore3 d_M_taken_44 rfl ?_
        refine hg_goto (tgt := 31) d_M_taken_45 (by decide) ?_
        refine hg_iload3 d_M_taken_31 ?_
        refine hg_iload2 d_M_taken_32 ?_
        refine hg_icmp_eq (tgt := 48) d_M_taken_33 (by decide) (fun h_31 => absurd h_31 (by decide)) (fun h_31 => ?_)
        refine hg_iload3 d_M_taken_36 ?_
        refine hg_if_le (tgt := 48) d_M_taken_37 (by decide) (fun h_32 => ?_) (fun h_32 => absurd (by decide) h_32)
        refine hg_iload3 d_M_taken_48 ?_
        refine hg_iload2 d_M_taken_49 ?_
        refine hg_icmp_ne (tgt := 62) d_M_taken_50 (by decide) (fun h_33 => ?_) (fun h_33 => absurd (by decide) h_33)
        refine hg_bipush (v := (-12)) d_M_taken_62 (by decide) ?_
        refine hg_ireturn d_M_taken_64 rfl rfl ?_
        refine ⟨?_, I, Lg, rfl, hM0, fun _ _ => rfl, fun _ _ => rfl⟩
        unfold sp_taken; rw [iha, ihb]; simp only []; rw [ek, nI_clamp (by decide)]; rfl
      · refine hg_eq1 (y := 1) ek ?_
        show hg_WP l E _ Y_M_taken 0 0 30 [some (.ref (hg_ad E 21 0)), some (.int (nI h)), some (.int 3), none] [.int 1] (I, Lg, Rf, X) _
        refine hg_istore3 d_M_taken_30 rfl ?_
        refine hg_iload3 d_M_taken_31 ?_
        refine hg_iload2 d_M_taken_32 ?_
        refine hg_icmp_eq (tgt := 48) d_M_taken_33 (by decide) (fun h_34 => absurd h_34 (by decide)) (fun h_34 => ?_)
        refine hg_iload3 d_M_taken_36 ?_
        refine hg_if_le (tgt := 48) d_M_taken_37 (by decide) (fun h_35 => absurd h_35 (by decide)) (fun h_35 => ?_)
        refine hg_iload3 d_M_taken_40 ?_
        refine hg_cSi d_M_taken_41 l_M_315 rfl (Nat.le_of_ble_eq_true rfl) (m_M_above) rfl ?_
        rintro _ _ ⟨rfl, rfl⟩
        refine hg_eq1 (y := 0) (by decide) ?_
        refine hg_istore3 d_M_taken_44 rfl ?_
        refine hg_goto (tgt := 31) d_M_taken_45 (by decide) ?_
        refine hg_iload3 d_M_taken_31 ?_
        refine hg_iload2 d_M_taken_32 ?_
        refine hg_icmp_eq (tgt := 48) d_M_taken_33 (by decide) (fun h_36 => absurd h_36 (by decide)) (fun h_36 => ?_)
        refine hg_iload3 d_M_taken_36 ?_
        refine hg_if_le (tgt := 48) d_M_taken_37 (by decide) (fun h_37 => ?_) (fun h_37 => absurd (by decide) h_37)
        refine hg_iload3 d_M_taken_48 ?_
        refine hg_iload2 d_M_taken_49 ?_
        refine hg_icmp_ne (tgt := 62) d_M_taken_50 (by decide) (fun h_38 => ?_) (fun h_38 => absurd (by decide) h_38)
        refine hg_bipush (v := (-12)) d_M_taken_62 (by decide) ?_
        refine hg_ireturn d_M_taken_64 rfl rfl ?_
        refine ⟨?_, I, Lg, rfl, hM0, fun _ _ => rfl, fun _ _ => rfl⟩
        unfold sp_taken; rw [iha, ihb]; simp only []; rw [ek, nI_clamp (by decide)]; rfl
      · refine hg_eq1 (y := 1) ek ?_
        show hg_WP l E _ Y_M_taken 0 0 30 [some (.ref (hg_ad E 21 0)), some (.int (nI h)), some (.int 4), none] [.int 1] (I, Lg, Rf, X) _
        refine hg_istore3 d_M_taken_30 rfl ?_
        refine hg_iload3 d_M_taken_31 ?_
        refine hg_iload2 d_M_taken_32 ?_
        refine hg_icmp_eq (tgt := 48) d_M_taken_33 (by decide) (fun h_39 => absurd h_39 (by decide)) (fun h_39 => ?_)
        refine hg_iload3 d_M_taken_36 ?_
        refine hg_if_le (tgt := 48) d_M_taken_37 (by decide) (fun h_40 => absurd h_40 (by decide)) (fun h_40 => ?_)
        refine hg_iload3 d_M_taken_40 ?_
        refine hg_cSi d_M_taken_41 l_M_315 rfl (Nat.le_of_ble_eq_true rfl) (m_M_above) rfl ?_
        rintro _ _ ⟨rfl, rfl⟩
        refine hg_eq1 (y := 0) (by decide) ?_
        refine hg_istore3 d_M_taken_44 rfl ?_
        refine hg_goto (tgt := 31) d_M_taken_45 (by decide) ?_
        refine hg_iload3 d_M_taken_31 ?_
        refine hg_iload2 d_M_taken_32 ?_
        refine hg_icmp_eq (tgt := 48) d_M_taken_33 (by decide) (fun h_41 => absurd h_41 (by decide)) (fun h_41 => ?_)
        refine hg_iload3 d_M_taken_36 ?_
        refine hg_if_le (tgt := 48) d_M_taken_37 (by decide) (fun h_42 => ?_) (fun h_42 => absurd (by decide) h_42)
        refine hg_iload3 d_M_taken_48 ?_
        refine hg_iload2 d_M_taken_49 ?_
        refine hg_icmp_ne (tgt := 62) d_M_taken_50 (by decide) (fun h_43 => ?_) (fun h_43 => absurd (by decide) h_43)
        refine hg_bipush (v := (-12)) d_M_taken_62 (by decide) ?_
        refine hg_ireturn d_M_taken_64 rfl rfl ?_
        refine ⟨?_, I, Lg, rfl, hM0, fun _ _ => rfl, fun _ _ => rfl⟩
        unfold sp_taken; rw [iha, ihb]; simp only []; rw [ek, nI_clamp (by decide)]; rfl
      · refine hg_eq1 (y := 1) ek ?_
        show hg_WP l E _ Y_M_taken 0 0 30 [some (.ref (hg_ad E 21 0)), some (.int (nI h)), some (.int 5), none] [.int 1] (I, Lg, Rf, X) _
        refine hg_istore3 d_M_taken_30 rfl ?_
        refine hg_iload3 d_M_taken_31 ?_
        refine hg_iload2 d_M_taken_32 ?_
        refine hg_icmp_eq (tgt := 48) d_M_taken_33 (by decide) (fun h_44 => absurd h_44 (by decide)) (fun h_44 => ?_)
        refine hg_iload3 d_M_taken_36 ?_
        refine hg_if_le (tgt := 48) d_M_taken_37 (by decide) (fun h_45 => absurd h_45 (by decide)) (fun h_45 => ?_)
        refine hg_iload3 d_M_taken_40 ?_
        refine hg_cSi d_M_taken_41 l_M_315 rfl (Nat.le_of_ble_eq_true rfl) (m_M_above) rfl ?_
        rintro _ _ ⟨rfl, rfl⟩
        refine hg_eq1 (y := 0) (by decide) ?_
        refine hg_istore3 d_M_taken_44 rfl ?_
        refine hg_goto (tgt := 31) d_M_taken_45 (by decide) ?_
        refine hg_iload3 d_M_taken_31 ?_
        refine hg_iload2 d_M_taken_32 ?_
        refine hg_icmp_eq (tgt := 48) d_M_taken_33 (by decide) (fun h_46 => absurd h_46 (by decide)) (fun h_46 => ?_)
        refine hg_iload3 d_M_taken_36 ?_
        refine hg_if_le (tgt := 48) d_M_taken_37 (by decide) (fun h_47 => ?_) (fun h_47 => absurd (by decide) h_47)
        refine hg_iload3 d_M_taken_48 ?_
        refine hg_iload2 d_M_taken_49 ?_
        refine hg_icmp_ne (tgt := 62) d_M_taken_50 (by decide) (fun h_48 => ?_) (fun h_48 => absurd (by decide) h_48)
        refine hg_bipush (v := (-12)) d_M_taken_62 (by decide) ?_
        refine hg_ireturn d_M_taken_64 rfl rfl ?_
        refine ⟨?_, I, Lg, rfl, hM0, fun _ _ => rfl, fun _ _ => rfl⟩
        unfold sp_taken; rw [iha, ihb]; simp only []; rw [ek, nI_clamp (by decide)]; rfl
      · refine hg_eq1 (y := 1) ek ?_
        show hg_WP l E _ Y_M_taken 0 0 30 [some (.ref (hg_ad E 21 0)), some (.int (nI h)), some (.int 6), none] [.int 1] (I, Lg, Rf, X) _
        refine hg_istore3 d_M_taken_30 rfl ?_
        refine hg_iload3 d_M_taken_31 ?_
        refine hg_iload2 d_M_taken_32 ?_
        refine hg_icmp_eq (tgt := 48) d_M_taken_33 (by decide) (fun h_49 => absurd h_49 (by decide)) (fun h_49 => ?_)
        refine hg_iload3 d_M_taken_36 ?_
        refine hg_if_le (tgt := 48) d_M_taken_37 (by decide) (fun h_50 => absurd h_50 (by decide)) (fun h_50 => ?_)
        refine hg_iload3 d_M_taken_40 ?_
        refine hg_cSi d_M_taken_41 l_M_315 rfl (Nat.le_of_ble_eq_true rfl) (m_M_above) rfl ?_
        rintro _ _ ⟨rfl, rfl⟩
        refine hg_eq1 (y := 0) (by decide) ?_
        refine hg_istore3 d_M_taken_44 rfl ?_
        refine hg_goto (tgt := 31) d_M_taken_45 (by decide) ?_
        refine hg_iload3 d_M_taken_31 ?_
        refine hg_iload2 d_M_taken_32 ?_
        refine hg_icmp_eq (tgt := 48) d_M_taken_33 (by decide) (fun h_51 => absurd h_51 (by decide)) (fun h_51 => ?_)
        refine hg_iload3 d_M_taken_36 ?_
        refine hg_if_le (tgt := 48) d_M_taken_37 (by decide) (fun h_52 => ?_) (fun h_52 => absurd (by decide) h_52)
        refine hg_iload3 d_M_taken_48 ?_
        refine hg_iload2 d_M_taken_49 ?_
        refine hg_icmp_ne (tgt := 62) d_M_taken_50 (by decide) (fun h_53 => ?_) (fun h_53 => absurd (by decide) h_53)
        refine hg_bipush (v := (-12)) d_M_taken_62 (by decide) ?_
        refine hg_ireturn d_M_taken_64 rfl rfl ?_
        refine ⟨?_, I, Lg, rfl, hM0, fun _ _ => rfl, fun _ _ => rfl⟩
        unfold sp_taken; rw [iha, ihb]; simp only []; rw [ek, nI_clamp (by decide)]; rfl
      · refine hg_eq1 (y := 2) ek ?_
        show hg_WP l E _ Y_M_taken 0 0 30 [some (.ref (hg_ad E 21 0)), some (.int (nI h)), some (.int 0), none] [.int 2] (I, Lg, Rf, X) _
        refine hg_istore3 d_M_taken_30 rfl ?_
        refine hg_iload3 d_M_taken_31 ?_
        refine hg_iload2 d_M_taken_32 ?_
        refine hg_icmp_eq (tgt := 48) d_M_taken_33 (by decide) (fun h_54 => absurd h_54 (by decide)) (fun h_54 => ?_)
        refine hg_iload3 d_M_taken_36 ?_
        refine hg_if_le (tgt := 48) d_M_taken_37 (by decide) (fun h_55 => absurd h_55 (by decide)) (fun h_55 => ?_)
        refine hg_iload3 d_M_taken_40 ?_
        refine hg_cSi d_M_taken_41 l_M_315 rfl (Nat.le_of_ble_eq_true rfl) (m_M_above) rfl ?_
        rintro _ _ ⟨rfl, rfl⟩
        refine hg_eq1 (y := 0) (by decide) ?_
        refine hg_istore3 d_M_taken_44 rfl ?_
        refine hg_goto (tgt := 31) d_M_taken_45 (by decide) ?_
        refine hg_iload3 d_M_taken_31 ?_
        refine hg_iload2 d_M_taken_32 ?_
        refine hg_icmp_eq (tgt := 48) d_M_taken_33 (by decide) (fun h_56 => ?_) (fun h_56 => absurd (by decide) h_56)
        refine hg_iload3 d_M_taken_48 ?_
        refine hg_iload2 d_M_taken_49 ?_
        refine hg_icmp_ne (tgt := 62) d_M_taken_50 (by decide) (fun h_57 => absurd h_57 (by decide)) (fun h_57 => ?_)
        refine hg_aload0 d_M_taken_53 ?_
        refine hg_getR d_M_taken_54 f_M_9 rfl rfl (hX.lt (n := 1) ⟨by decide, by decide⟩ rfl (by omega)) (hR.m (j := 1) (q := (22, 0)) rfl) ?_
        refine hg_iload1 d_M_taken_57 ?_
        refine hg_iald_n (j := h) d_M_taken_58 rfl rfl (hX.lt (n := 28) ⟨by decide, by decide⟩ rfl (by omega)) (hX.jn (n := 6) (by decide) rfl (by omega)) ?_
        refine hg_eq1 (y := hs_hv (gN G) h 0) (hM.2.2.2.2.2.2.2.1 h 0 (by assumption) (by decide)) ?_
        refine hg_goto (tgt := 64) d_M_taken_59 (by decide) ?_
        refine hg_ireturn d_M_taken_64 rfl rfl ?_
        refine ⟨?_, I, Lg, rfl, hM0, fun _ _ => rfl, fun _ _ => rfl⟩
        unfold sp_taken; rw [iha, ihb]; simp only []; rw [ek, nI_clamp (by decide)]; rfl
      · refine hg_eq1 (y := 2) ek ?_
        show hg_WP l E _ Y_M_taken 0 0 30 [some (.ref (hg_ad E 21 0)), some (.int (nI h)), some (.int 1), none] [.int 2] (I, Lg, Rf, X) _
        refine hg_istore3 d_M_taken_30 rfl ?_
        refine hg_iload3 d_M_taken_31 ?_
        refine hg_iload2 d_M_taken_32 ?_
        refine hg_icmp_eq (tgt := 48) d_M_taken_33 (by decide) (fun h_58 => absurd h_58 (by decide)) (fun h_58 => ?_)
        refine hg_iload3 d_M_taken_36 ?_
        refine hg_if_le (tgt := 48) d_M_taken_37 (by decide) (fun h_59 => absurd h_59 (by decide)) (fun h_59 => ?_)
        refine hg_iload3 d_M_taken_40 ?_
        refine hg_cSi d_M_taken_41 l_M_315 rfl (Nat.le_of_ble_eq_true rfl) (m_M_above) rfl ?_
        rintro _ _ ⟨rfl, rfl⟩
        refine hg_eq1 (y := 0) (by decide) ?_
        refine hg_istore3 d_M_taken_44 rfl ?_
        refine hg_goto (tgt := 31) d_M_taken_45 (by decide) ?_
        refine hg_iload3 d_M_taken_31 ?_
        refine hg_iload2 d_M_taken_32 ?_
        refine hg_icmp_eq (tgt := 48) d_M_taken_33 (by decide) (fun h_60 => absurd h_60 (by decide)) (fun h_60 => ?_)
        refine hg_iload3 d_M_taken_36 ?_
        refine hg_if_le (tgt := 48) d_M_taken_37 (by decide) (fun h_61 => ?_) (fun h_61 => absurd (by decide) h_61)
        refine hg_iload3 d_M_taken_48 ?_
        refine hg_iload2 d_M_taken_49 ?_
        refine hg_icmp_ne (tgt := 62) d_M_taken_50 (by decide) (fun h_62 => ?_) (fun h_62 => absurd (by decide) h_62)
        refine hg_bipush (v := (-12)) d_M_taken_62 (by decide) ?_
        refine hg_ireturn d_M_taken_64 rfl rfl ?_
        refine ⟨?_, I, Lg, rfl, hM0, fun _ _ => rfl, fun _ _ => rfl⟩
        unfold sp_taken; rw [iha, ihb]; simp only []; rw [ek, nI_clamp (by decide)]; rfl
      · refine hg_eq1 (y := 2) ek ?_
        show hg_WP l E _ Y_M_taken 0 0 30 [some (.ref (hg_ad E 21 0)), some (.int (nI h)), some (.int 2), none] [.int 2] (I, Lg, Rf, X) _
        refine hg_istore3 d_M_taken_30 rfl ?_
        refine hg_iload3 d_M_taken_31 ?_
        refine hg_iload2 d_M_taken_32 ?_
        refine hg_icmp_eq (tgt := 48) d_M_taken_33 (by decide) (fun h_63 => ?_) (fun h_63 => absurd (by decide) h_63)
        refine hg_iload3 d_M_taken_48 ?_
        refine hg_iload2 d_M_taken_49 ?_
        refine hg_icmp_ne (tgt := 62) d_M_taken_50 (by decide) (fun h_64 => absurd h_64 (by decide)) (fun h_64 => ?_)
        refine hg_aload0 d_M_taken_53 ?_
        refine hg_getR d_M_taken_54 f_M_9 rfl rfl (hX.lt (n := 1) ⟨by decide, by decide⟩ rfl (by omega)) (hR.m (j := 1) (q := (22, 0)) rfl) ?_
        refine hg_iload1 d_M_taken_57 ?_
        refine hg_iald_n (j := h) d_M_taken_58 rfl rfl (hX.lt (n := 28) ⟨by decide, by decide⟩ rfl (by omega)) (hX.jn (n := 6) (by decide) rfl (by omega)) ?_
        refine hg_eq1 (y := hs_hv (gN G) h 0) (hM.2.2.2.2.2.2.2.1 h 0 (by assumption) (by decide)) ?_
        refine hg_goto (tgt := 64) d_M_taken_59 (by decide) ?_
        refine hg_ireturn d_M_taken_64 rfl rfl ?_
        refine ⟨?_, I, Lg, rfl, hM0, fun _ _ => rfl, fun _ _ => rfl⟩
        unfold sp_taken; rw [iha, ihb]; simp only []; rw [ek, nI_clamp (by decide)]; rfl
      · refine hg_eq1 (y := 2) ek ?_
        show hg_WP l E _ Y_M_taken 0 0 30 [some (.ref (hg_ad E 21 0)), some (.int (nI h)), some (.int 3), none] [.int 2] (I, Lg, Rf, X) _
        refine hg_istore3 d_M_taken_30 rfl ?_
        refine hg_iload3 d_M_taken_31 ?_
        refine hg_iload2 d_M_taken_32 ?_
        refine hg_icmp_eq (tgt := 48) d_M_taken_33 (by decide) (fun h_65 => absurd h_65 (by decide)) (fun h_65 => ?_)
        refine hg_iload3 d_M_taken_36 ?_
        refine hg_if_le (tgt := 48) d_M_taken_37 (by decide) (fun h_66 => absurd h_66 (by decide)) (fun h_66 => ?_)
        refine hg_iload3 d_M_taken_40 ?_
        refine hg_cSi d_M_taken_41 l_M_315 rfl (Nat.le_of_ble_eq_true rfl) (m_M_above) rfl ?_
        rintro _ _ ⟨rfl, rfl⟩
        refine hg_eq1 (y := 0) (by decide) ?_
        refine hg_istore3 d_M_taken_44 rfl ?_
        refine hg_goto (tgt := 31) d_M_taken_45 (by decide) ?_
        refine hg_iload3 d_M_taken_31 ?_
        refine hg_iload2 d_M_taken_32 ?_
        refine hg_icmp_eq (tgt := 48) d_M_taken_33 (by decide) (fun h_67 => absurd h_67 (by decide)) (fun h_67 => ?_)
        refine hg_iload3 d_M_taken_36 ?_
        refine hg_if_le (tgt := 48) d_M_taken_37 (by decide) (fun h_68 => ?_) (fun h_68 => absurd (by decide) h_68)
        refine hg_iload3 d_M_taken_48 ?_
        refine hg_iload2 d_M_taken_49 ?_
        refine hg_icmp_ne (tgt := 62) d_M_taken_50 (by decide) (fun h_69 => ?_) (fun h_69 => absurd (by decide) h_69)
        refine hg_bipush (v := (-12)) d_M_taken_62 (by decide) ?_
        refine hg_ireturn d_M_taken_64 rfl rfl ?_
        refine ⟨?_, I, Lg, rfl, hM0, fun _ _ => rfl, fun _ _ => rfl⟩
        unfold sp_taken; rw [iha, ihb]; simp only []; rw [ek, nI_clamp (by decide)]; rfl
      · refine hg_eq1 (y := 2) ek ?_
        show hg_WP l E _ Y_M_taken 0 0 30 [some (.ref (hg_ad E 21 0)), some (.int (nI h)), some (.int 4), none] [.int 2] (I, Lg, Rf, X) _
        refine hg_istore3 d_M_taken_30 rfl ?_
        refine hg_iload3 d_M_taken_31 ?_
        refine hg_iload2 d_M_taken_32 ?_
        refine hg_icmp_eq (tgt := 48) d_M_taken_33 (by decide) (fun h_70 => absurd h_70 (by decide)) (fun h_70 => ?_)
        refine hg_iload3 d_M_taken_36 ?_
        refine hg_if_le (tgt := 48) d_M_taken_37 (by decide) (fun h_71 => absurd h_71 (by decide)) (fun h_71 => ?_)
        refine hg_iload3 d_M_taken_40 ?_
        refine hg_cSi d_M_taken_41 l_M_315 rfl (Nat.le_of_ble_eq_true rfl) (m_M_above) rfl ?_
        rintro _ _ ⟨rfl, rfl⟩
        refine hg_eq1 (y := 0) (by decide) ?_
        refine hg_istore3 d_M_taken_44 rfl ?_
        refine hg_goto (tgt := 31) d_M_taken_45 (by decide) ?_
        refine hg_iload3 d_M_taken_31 ?_
        refine hg_iload2 d_M_taken_32 ?_
        refine hg_icmp_eq (tgt := 48) d_M_taken_33 (by decide) (fun h_72 => absurd h_72 (by decide)) (fun h_72 => ?_)
        refine hg_iload3 d_M_taken_36 ?_
        refine hg_if_le (tgt := 48) d_M_taken_37 (by decide) (fun h_73 => ?_) (fun h_73 => absurd (by decide) h_73)
        refine hg_iload3 d_M_taken_48 ?_
        refine hg_iload2 d_M_taken_49 ?_
        refine hg_icmp_ne (tgt := 62) d_M_taken_50 (by decide) (fun h_74 => ?_) (fun h_74 => absurd (by decide) h_74)
        refine hg_bipush (v := (-12)) d_M_taken_62 (by decide) ?_
        refine hg_ireturn d_M_taken_64 rfl rfl ?_
        refine ⟨?_, I, Lg, rfl, hM0, fun _ _ => rfl, fun _ _ => rfl⟩
        unfold sp_taken; rw [iha, ihb]; simp only []; rw [ek, nI_clamp (by decide)]; rfl
      · refine hg_eq1 (y := 2) ek ?_
        show hg_WP l E _ Y_M_taken 0 0 30 [some (.ref (hg_ad E 21 0)), some (.int (nI h)), some (.int 5), none] [.int 2] (I, Lg, Rf, X) _
        refine hg_istore3 d_M_taken_30 rfl ?_
        refine hg_iload3 d_M_taken_31 ?_
        refine hg_iload2 d_M_taken_32 ?_
        refine hg_icmp_eq (tgt := 48) d_M_taken_33 (by decide) (fun h_75 => absurd h_75 (by decide)) (fun h_75 => ?_)
        refine hg_iload3 d_M_taken_36 ?_
        refine hg_if_le (tgt := 48) d_M_taken_37 (by decide) (fun h_76 => absurd h_76 (by decide)) (fun h_76 => ?_)
        refine hg_iload3 d_M_taken_40 ?_
        refine hg_cSi d_M_taken_41 l_M_315 rfl (Nat.le_of_ble_eq_true rfl) (m_M_above) rfl ?_
        rintro _ _ ⟨rfl, rfl⟩
        refine hg_eq1 (y := 0) (by decide) ?_
        refine hg_istore3 d_M_taken_44 rfl ?_
        refine hg_goto (tgt := 31) d_M_taken_45 (by decide) ?_
        refine hg_iload3 d_M_taken_31 ?_
        refine hg_iload2 d_M_taken_32 ?_
        refine hg_icmp_eq (tgt := 48) d_M_taken_33 (by decide) (fun h_77 => absurd h_77 (by decide)) (fun h_77 => ?_)
        refine hg_iload3 d_M_taken_36 ?_
        refine hg_if_le (tgt := 48) d_M_taken_37 (by decide) (fun h_78 => ?_) (fun h_78 => absurd (by decide) h_78)
        refine hg_iload3 d_M_taken_48 ?_
        refine hg_iload2 d_M_taken_49 ?_
        refine hg_icmp_ne (tgt := 62) d_M_taken_50 (by decide) (fun h_79 => ?_) (fun h_79 => absurd (by decide) h_79)
        refine hg_bipush (v := (-12)) d_M_taken_62 (by decide) ?_
        refine hg_ireturn d_M_taken_64 rfl rfl ?_
        refine ⟨?_, I, Lg, rfl, hM0, fun _ _ => rfl, fun _ _ => rfl⟩
        unfold sp_taken; rw [iha, ihb]; simp only []; rw [ek, nI_clamp (by decide)]; rfl
      · refine hg_eq1 (y := 2) ek ?_
        show hg_WP l E _ Y_M_taken 0 0 30 [some (.ref (hg_ad E 21 0)), some (.int (nI h)), some (.int 6), none] [.int 2] (I, Lg, Rf, X) _
        refine hg_istore3 d_M_taken_30 rfl ?_
        refine hg_iload3 d_M_taken_31 ?_
        refine hg_iload2 d_M_taken_32 ?_
        refine hg_icmp_eq (tgt := 48) d_M_taken_33 (by decide) (fun h_80 => absurd h_80 (by decide)) (fun h_80 => ?_)
        refine hg_iload3 d_M_taken_36 ?_
        refine hg_if_le (tgt := 48) d_M_taken_37 (by decide) (fun h_81 => absurd h_81 (by decide)) (fun h_81 => ?_)
        refine hg_iload3 d_M_taken_40 ?_
        refine hg_cSi d_M_taken_41 l_M_315 rfl (Nat.le_of_ble_eq_true rfl) (m_M_above) rfl ?_
        rintro _ _ ⟨rfl, rfl⟩
        refine hg_eq1 (y := 0) (by decide) ?_
        refine hg_istore3 d_M_taken_44 rfl ?_
        refine hg_goto (tgt := 31) d_M_taken_45 (by decide) ?_
        refine hg_iload3 d_M_taken_31 ?_
        refine hg_iload2 d_M_taken_32 ?_
        refine hg_icmp_eq (tgt := 48) d_M_taken_33 (by decide) (fun h_82 => absurd h_82 (by decide)) (fun h_82 => ?_)
        refine hg_iload3 d_M_taken_36 ?_
        refine hg_if_le (tgt := 48) d_M_taken_37 (by decide) (fun h_83 => ?_) (fun h_83 => absurd (by decide) h_83)
        refine hg_iload3 d_M_taken_48 ?_
        refine hg_iload2 d_M_taken_49 ?_
        refine hg_icmp_ne (tgt := 62) d_M_taken_50 (by decide) (fun h_84 => ?_) (fun h_84 => absurd (by decide) h_84)
        refine hg_bipush (v := (-12)) d_M_taken_62 (by decide) ?_
        refine hg_ireturn d_M_taken_64 rfl rfl ?_
        refine ⟨?_, I, Lg, rfl, hM0, fun _ _ => rfl, fun _ _ => rfl⟩
        unfold sp_taken; rw [iha, ihb]; simp only []; rw [ek, nI_clamp (by decide)]; rfl
      · refine hg_eq1 (y := 3) ek ?_
        show hg_WP l E _ Y_M_taken 0 0 30 [some (.ref (hg_ad E 21 0)), some (.int (nI h)), some (.int 0), none] [.int 3] (I, Lg, Rf, X) _
        refine hg_istore3 d_M_taken_30 rfl ?_
        refine hg_iload3 d_M_taken_31 ?_
        refine hg_iload2 d_M_taken_32 ?_
        refine hg_icmp_eq (tgt := 48) d_M_taken_33 (by decide) (fun h_85 => absurd h_85 (by decide)) (fun h_85 => ?_)
        refine hg_iload3 d_M_taken_36 ?_
        refine hg_if_le (tgt := 48) d_M_taken_37 (by decide) (fun h_86 => absurd h_86 (by decide)) (fun h_86 => ?_)
        refine hg_iload3 d_M_taken_40 ?_
        refine hg_cSi d_M_taken_41 l_M_315 rfl (Nat.le_of_ble_eq_true rfl) (m_M_above) rfl ?_
        rintro _ _ ⟨rfl, rfl⟩
        refine hg_eq1 (y := 0) (by decide) ?_
        refine hg_istore3 d_M_taken_44 rfl ?_
        refine hg_goto (tgt := 31) d_M_taken_45 (by decide) ?_
        refine hg_iload3 d_M_taken_31 ?_
        refine hg_iload2 d_M_taken_32 ?_
        refine hg_icmp_eq (tgt := 48) d_M_taken_33 (by decide) (fun h_87 => ?_) (fun h_87 => absurd (by decide) h_87)
        refine hg_iload3 d_M_taken_48 ?_
        refine hg_iload2 d_M_taken_49 ?_
        refine hg_icmp_ne (tgt := 62) d_M_taken_50 (by decide) (fun h_88 => absurd h_88 (by decide)) (fun h_88 => ?_)
        refine hg_aload0 d_M_taken_53 ?_
        refine hg_getR d_M_taken_54 f_M_9 rfl rfl (hX.lt (n := 1) ⟨by decide, by decide⟩ rfl (by omega)) (hR.m (j := 1) (q := (22, 0)) rfl) ?_
        refine hg_iload1 d_M_taken_57 ?_
        refine hg_iald_n (j := h) d_M_taken_58 rfl rfl (hX.lt (n := 28) ⟨by decide, by decide⟩ rfl (by omega)) (hX.jn (n := 6) (by decide) rfl (by omega)) ?_
        refine hg_eq1 (y := hs_hv (gN G) h 0) (hM.2.2.2.2.2.2.2.1 h 0 (by assumption) (by decide)) ?_
        refine hg_goto (tgt := 64) d_M_taken_59 (by decide) ?_
        refine hg_ireturn d_M_taken_64 rfl rfl ?_
        refine ⟨?_, I, Lg, rfl, hM0, fun _ _ => rfl, fun _ _ => rfl⟩
        unfold sp_taken; rw [iha, ihb]; simp only []; rw [ek, nI_clamp (by decide)]; rfl
      · refine hg_eq1 (y := 3) ek ?_
        show hg_WP l E _ Y_M_taken 0 0 30 [some (.ref (hg_ad E 21 0)), some (.int (nI h)), some (.int 1), none] [.int 3] (I, Lg, Rf, X) _
        refine hg_istore3 d_M_taken_30 rfl ?_
        refine hg_iload3 d_M_taken_31 ?_
        refine hg_iload2 d_M_taken_32 ?_
        refine hg_icmp_eq (tgt := 48) d_M_taken_33 (by decide) (fun h_89 => absurd h_89 (by decide)) (fun h_89 => ?_)
        refine hg_iload3 d_M_taken_36 ?_
        refine hg_if_le (tgt := 48) d_M_taken_37 (by decide) (fun h_90 => absurd h_90 (by decide)) (fun h_90 => ?_)
        refine hg_iload3 d_M_taken_40 ?_
        refine hg_cSi d_M_taken_41 l_M_315 rfl (Nat.le_of_ble_eq_true rfl) (m_M_above) rfl ?_
        rintro _ _ ⟨rfl, rfl⟩
        refine hg_eq1 (y := 0) (by decide) ?_
        refine hg_istore3 d_M_taken_44 rfl ?_
        refine hg_goto (tgt := 31) d_M_taken_45 (by decide) ?_
        refine hg_iload3 d_M_taken_31 ?_
        refine hg_iload2 d_M_taken_32 ?_
        refine hg_icmp_eq (tgt := 48) d_M_taken_33 (by decide) (fun h_91 => absurd h_91 (by decide)) (fun h_91 => ?_)
        refine hg_iload3 d_M_taken_36 ?_
        refine hg_if_le (tgt := 48) d_M_taken_37 (by decide) (fun h_92 => ?_) (fun h_92 => absurd (by decide) h_92)
        refine hg_iload3 d_M_taken_48 ?_
        refine hg_iload2 d_M_taken_49 ?_
        refine hg_icmp_ne (tgt := 62) d_M_taken_50 (by decide) (fun h_93 => ?_) (fun h_93 => absurd (by decide) h_93)
        refine hg_bipush (v := (-12)) d_M_taken_62 (by decide) ?_
        refine hg_ireturn d_M_taken_64 rfl rfl ?_
        refine ⟨?_, I, Lg, rfl, hM0, fun _ _ => rfl, fun _ _ => rfl⟩
        unfold sp_taken; rw [iha, ihb]; simp only []; rw [ek, nI_clamp (by decide)]; rfl
      · refine hg_eq1 (y := 3) ek ?_
        show hg_WP l E _ Y_M_taken 0 0 30 [some (.ref (hg_ad E 21 0)), some (.int (nI h)), some (.int 2), none] [.int 3] (I, Lg, Rf, X) _
        refine hg_istore3 d_M_taken_30 rfl ?_
        refine hg_iload3 d_M_taken_31 ?_
        refine hg_iload2 d_M_taken_32 ?_
        refine hg_icmp_eq (tgt := 48) d_M_taken_33 (by decide) (fun h_94 => absurd h_94 (by decide)) (fun h_94 => ?_)
        refine hg_iload3 d_M_taken_36 ?_
        refine hg_if_le (tgt := 48) d_M_taken_37 (by decide) (fun h_95 => absurd h_95 (by decide)) (fun h_95 => ?_)
        refine hg_iload3 d_M_taken_40 ?_
        refine hg_cSi d_M_taken_41 l_M_315 rfl (Nat.le_of_ble_eq_true rfl) (m_M_above) rfl ?_
        rintro _ _ ⟨rfl, rfl⟩
        refine hg_eq1 (y := 0) (by decide) ?_
        refine hg_istore3 d_M_taken_44 rfl ?_
        refine hg_goto (tgt := 31) d_M_taken_45 (by decide) ?_
        refine hg_iload3 d_M_taken_31 ?_
        refine hg_iload2 d_M_taken_32 ?_
        refine hg_icmp_eq (tgt := 48) d_M_taken_33 (by decide) (fun h_96 => absurd h_96 (by decide)) (fun h_96 => ?_)
        refine hg_iload3 d_M_taken_36 ?_
        refine hg_if_le (tgt := 48) d_M_taken_37 (by decide) (fun h_97 => ?_) (fun h_97 => absurd (by decide) h_97)
        refine hg_iload3 d_M_taken_48 ?_
        refine hg_iload2 d_M_taken_49 ?_
        refine hg_icmp_ne (tgt := 62) d_M_taken_50 (by decide) (fun h_98 => ?_) (fun h_98 => absurd (by decide) h_98)
        refine hg_bipush (v := (-12)) d_M_taken_62 (by decide) ?_
        refine hg_ireturn d_M_taken_64 rfl rfl ?_
        refine ⟨?_, I, Lg, rfl, hM0, fun _ _ => rfl, fun _ _ => rfl⟩
        unfold sp_taken; rw [iha, ihb]; simp only []; rw [ek, nI_clamp (by decide)]; rfl
      · refine hg_eq1 (y := 3) ek ?_
        show hg_WP l E _ Y_M_taken 0 0 30 [some (.ref (hg_ad E 21 0)), some (.int (nI h)), some (.int 3), none] [.int 3] (I, Lg, Rf, X) _
        refine hg_istore3 d_M_taken_30 rfl ?_
        refine hg_iload3 d_M_taken_31 ?_
        refine hg_iload2 d_M_taken_32 ?_
        refine hg_icmp_eq (tgt := 48) d_M_taken_33 (by decide) (fun h_99 => ?_) (fun h_99 => absurd (by decide) h_99)
        refine hg_iload3 d_M_taken_48 ?_
        refine hg_iload2 d_M_taken_49 ?_
        refine hg_icmp_ne (tgt := 62) d_M_taken_50 (by decide) (fun h_100 => absurd h_100 (by decide)) (fun h_100 => ?_)
        refine hg_aload0 d_M_taken_53 ?_
        refine hg_getR d_M_taken_54 f_M_9 rfl rfl (hX.lt (n := 1) ⟨by decide, by decide⟩ rfl (by omega)) (hR.m (j := 1) (q := (22, 0)) rfl) ?_
        refine hg_iload1 d_M_taken_57 ?_
        refine hg_iald_n (j := h) d_M_taken_58 rfl rfl (hX.lt (n := 28) ⟨by decide, by decide⟩ rfl (by omega)) (hX.jn (n := 6) (by decide) rfl (by omega)) ?_
        refine hg_eq1 (y := hs_hv (gN G) h 0) (hM.2.2.2.2.2.2.2.1 h 0 (by assumption) (by decide)) ?_
        refine hg_goto (tgt := 64) d_M_taken_59 (by decide) ?_
        refine hg_ireturn d_M_taken_64 rfl rfl ?_
        refine ⟨?_, I, Lg, rfl, hM0, fun _ _ => rfl, fun _ _ => rfl⟩
        unfold sp_taken; rw [iha, ihb]; simp only []; rw [ek, nI_clamp (by decide)]; rfl
      · refine hg_eq1 (y := 3) ek ?_
        show hg_WP l E _ Y_M_taken 0 0 30 [some (.ref (hg_ad E 21 0)), some (.int (nI h)), some (.int 4), none] [.int 3] (I, Lg, Rf, X) _
        refine hg_istore3 d_M_taken_30 rfl ?_
        refine hg_iload3 d_M_taken_31 ?_
        refine hg_iload2 d_M_taken_32 ?_
        refine hg_icmp_eq (tgt := 48) d_M_taken_33 (by decide) (fun h_101 => absurd h_101 (by decide)) (fun h_101 => ?_)
        refine hg_iload3 d_M_taken_36 ?_
        refine hg_if_le (tgt := 48) d_M_taken_37 (by decide) (fun h_102 => absurd h_102 (by decide)) (fun h_102 => ?_)
        refine hg_iload3 d_M_taken_40 ?_
        refine hg_cSi d_M_taken_41 l_M_315 rfl (Nat.le_of_ble_eq_true rfl) (m_M_above) rfl ?_
        rintro _ _ ⟨rfl, rfl⟩
        refine hg_eq1 (y := 0) (by decide) ?_
        refine hg_istore3 d_M_taken_44 rfl ?_
        refine hg_goto (tgt := 31) d_M_taken_45 (by decide) ?_
        refine hg_iload3 d_M_taken_31 ?_
        refine hg_iload2 d_M_taken_32 ?_
        refine hg_icmp_eq (tgt := 48) d_M_taken_33 (by decide) (fun h_103 => absurd h_103 (by decide)) (fun h_103 => ?_)
        refine hg_iload3 d_M_taken_36 ?_
        refine hg_if_le (tgt := 48) d_M_taken_37 (by decide) (fun h_104 => ?_) (fun h_104 => absurd (by decide) h_104)
        refine hg_iload3 d_M_taken_48 ?_
        refine hg_iload2 d_M_taken_49 ?_
        refine hg_icmp_ne (tgt := 62) d_M_taken_50 (by decide) (fun h_105 => ?_) (fun h_105 => absurd (by decide) h_105)
        refine hg_bipush (v := (-12)) d_M_taken_62 (by decide) ?_
        refine hg_ireturn d_M_taken_64 rfl rfl ?_
        refine ⟨?_, I, Lg, rfl, hM0, fun _ _ => rfl, fun _ _ => rfl⟩
        unfold sp_taken; rw [iha, ihb]; simp only []; rw [ek, nI_clamp (by decide)]; rfl
      · refine hg_eq1 (y := 3) ek ?_
        show hg_WP l E _ Y_M_taken 0 0 30 [some (.ref (hg_ad E 21 0)), some (.int (nI h)), some (.int 5), none] [.int 3] (I, Lg, Rf, X) _
        refine hg_istore3 d_M_taken_30 rfl ?_
        refine hg_iload3 d_M_taken_31 ?_
        refine hg_iload2 d_M_taken_32 ?_
        refine hg_icmp_eq (tgt := 48) d_M_taken_33 (by decide) (fun h_106 => absurd h_106 (by decide)) (fun h_106 => ?_)
        refine hg_iload3 d_M_taken_36 ?_
        refine hg_if_le (tgt := 48) d_M_taken_37 (by decide) (fun h_107 => absurd h_107 (by decide)) (fun h_107 => ?_)
        refine hg_iload3 d_M_taken_40 ?_
        refine hg_cSi d_M_taken_41 l_M_315 rfl (Nat.le_of_ble_eq_true rfl) (m_M_above) rfl ?_
        rintro _ _ ⟨rfl, rfl⟩
        refine hg_eq1 (y := 0) (by decide) ?_
        refine hg_istore3 d_M_taken_44 rfl ?_
        refine hg_goto (tgt := 31) d_M_taken_45 (by decide) ?_
        refine hg_iload3 d_M_taken_31 ?_
        refine hg_iload2 d_M_taken_32 ?_
        refine hg_icmp_eq (tgt := 48) d_M_taken_33 (by decide) (fun h_108 => absurd h_108 (by decide)) (fun h_108 => ?_)
        refine hg_iload3 d_M_taken_36 ?_
        refine hg_if_le (tgt := 48) d_M_taken_37 (by decide) (fun h_109 => ?_) (fun h_109 => absurd (by decide) h_109)
        refine hg_iload3 d_M_taken_48 ?_
        refine hg_iload2 d_M_taken_49 ?_
        refine hg_icmp_ne (tgt := 62) d_M_taken_50 (by decide) (fun h_110 => ?_) (fun h_110 => absurd (by decide) h_110)
        refine hg_bipush (v := (-12)) d_M_taken_62 (by decide) ?_
        refine hg_ireturn d_M_taken_64 rfl rfl ?_
        refine ⟨?_, I, Lg, rfl, hM0, fun _ _ => rfl, fun _ _ => rfl⟩
        unfold sp_taken; rw [iha, ihb]; simp only []; rw [ek, nI_clamp (by decide)]; rfl
      · refine hg_eq1 (y := 3) ek ?_
        show hg_WP l E _ Y_M_taken 0 0 30 [some (.ref (hg_ad E 21 0)), some (.int (nI h)), some (.int 6), none] [.int 3] (I, Lg, Rf, X) _
        refine hg_istore3 d_M_taken_30 rfl ?_
        refine hg_iload3 d_M_taken_31 ?_
        refine hg_iload2 d_M_taken_32 ?_
        refine hg_icmp_eq (tgt := 48) d_M_taken_33 (by decide) (fun h_111 => absurd h_111 (by decide)) (fun h_111 => ?_)
        refine hg_iload3 d_M_taken_36 ?_
        refine hg_if_le (tgt := 48) d_M_taken_37 (by decide) (fun h_112 => absurd h_112 (by decide)) (fun h_112 => ?_)
        refine hg_iload3 d_M_taken_40 ?_
        refine hg_cSi d_M_taken_41 l_M_315 rfl (Nat.le_of_ble_eq_true rfl) (m_M_above) rfl ?_
        rintro _ _ ⟨rfl, rfl⟩
        refine hg_eq1 (y := 0) (by decide) ?_
        refine hg_istore3 d_M_taken_44 rfl ?_
        refine hg_goto (tgt := 31) d_M_taken_45 (by decide) ?_
        refine hg_iload3 d_M_taken_31 ?_
        refine hg_iload2 d_M_taken_32 ?_
        refine hg_icmp_eq (tgt := 48) d_M_taken_33 (by decide) (fun h_113 => absurd h_113 (by decide)) (fun h_113 => ?_)
        refine hg_iload3 d_M_taken_36 ?_
        refine hg_if_le (tgt := 48) d_M_taken_37 (by decide) (fun h_114 => ?_) (fun h_114 => absurd (by decide) h_114)
        refine hg_iload3 d_M_taken_48 ?_
        refine hg_iload2 d_M_taken_49 ?_
        refine hg_icmp_ne (tgt := 62) d_M_taken_50 (by decide) (fun h_115 => ?_) (fun h_115 => absurd (by decide) h_115)
        refine hg_bipush (v := (-12)) d_M_taken_62 (by decide) ?_
        refine hg_ireturn d_M_taken_64 rfl rfl ?_
        refine ⟨?_, I, Lg, rfl, hM0, fun _ _ => rfl, fun _ _ => rfl⟩
        unfold sp_taken; rw [iha, ihb]; simp only []; rw [ek, nI_clamp (by decide)]; rfl
      · refine hg_eq1 (y := 4) ek ?_
        show hg_WP l E _ Y_M_taken 0 0 30 [some (.ref (hg_ad E 21 0)), some (.int (nI h)), some (.int 0), none] [.int 4] (I, Lg, Rf, X) _
        refine hg_istore3 d_M_taken_30 rfl ?_
        refine hg_iload3 d_M_taken_31 ?_
        refine hg_iload2 d_M_taken_32 ?_
        refine hg_icmp_eq (tgt := 48) d_M_taken_33 (by decide) (fun h_116 => absurd h_116 (by decide)) (fun h_116 => ?_)
        refine hg_iload3 d_M_taken_36 ?_
        refine hg_if_le (tgt := 48) d_M_taken_37 (by decide) (fun h_117 => absurd h_117 (by decide)) (fun h_117 => ?_)
        refine hg_iload3 d_M_taken_40 ?_
        refine hg_cSi d_M_taken_41 l_M_315 rfl (Nat.le_of_ble_eq_true rfl) (m_M_above) rfl ?_
        rintro _ _ ⟨rfl, rfl⟩
        refine hg_eq1 (y := 1) (by decide) ?_
        refine hg_istore3 d_M_taken_44 rfl ?_
        refine hg_goto (tgt := 31) d_M_taken_45 (by decide) ?_
        refine hg_iload3 d_M_taken_31 ?_
        refine hg_iload2 d_M_taken_32 ?_
        refine hg_icmp_eq (tgt := 48) d_M_taken_33 (by decide) (fun h_118 => absurd h_118 (by decide)) (fun h_118 => ?_)
        refine hg_iload3 d_M_taken_36 ?_
        refine hg_if_le (tgt := 48) d_M_taken_37 (by decide) (fun h_119 => absurd h_119 (by decide)) (fun h_119 => ?_)
        refine hg_iload3 d_M_taken_40 ?_
        refine hg_cSi d_M_taken_41 l_M_315 rfl (Nat.le_of_ble_eq_true rfl) (m_M_above) rfl ?_
        rintro _ _ ⟨rfl, rfl⟩
        refine hg_eq1 (y := 0) (by decide) ?_
        refine hg_istore3 d_M_taken_44 rfl ?_
        refine hg_goto (tgt := 31) d_M_taken_45 (by decide) ?_
        refine hg_iload3 d_M_taken_31 ?_
        refine hg_iload2 d_M_taken_32 ?_
        refine hg_icmp_eq (tgt := 48) d_M_taken_33 (by decide) (fun h_120 => ?_) (fun h_120 => absurd (by decide) h_120)
        refine hg_iload3 d_M_taken_48 ?_
        refine hg_iload2 d_M_taken_49 ?_
        refine hg_icmp_ne (tgt := 62) d_M_taken_50 (by decide) (fun h_121 => absurd h_121 (by decide)) (fun h_121 => ?_)
        refine hg_aload0 d_M_taken_53 ?_
        refine hg_getR d_M_taken_54 f_M_9 rfl rfl (hX.lt (n := 1) ⟨by decide, by decide⟩ rfl (by omega)) (hR.m (j := 1) (q := (22, 0)) rfl) ?_
        refine hg_iload1 d_M_taken_57 ?_
        refine hg_iald_n (j := h) d_M_taken_58 rfl rfl (hX.lt (n := 28) ⟨by decide, by decide⟩ rfl (by omega)) (hX.jn (n := 6) (by decide) rfl (by omega)) ?_
        refine hg_eq1 (y := hs_hv (gN G) h 0) (hM.2.2.2.2.2.2.2.1 h 0 (by assumption) (by decide)) ?_
        refine hg_goto (tgt := 64) d_M_taken_59 (by decide) ?_
        refine hg_ireturn d_M_taken_64 rfl rfl ?_
        refine ⟨?_, I, Lg, rfl, hM0, fun _ _ => rfl, fun _ _ => rfl⟩
        unfold sp_taken; rw [iha, ihb]; simp only []; rw [ek, nI_clamp (by decide)]; rfl
      · refine hg_eq1 (y := 4) ek ?_
        show hg_WP l E _ Y_M_taken 0 0 30 [some (.ref (hg_ad E 21 0)), some (.int (nI h)), some (.int 1), none] [.int 4] (I, Lg, Rf, X) _
        refine hg_istore3 d_M_taken_30 rfl ?_
        refine hg_iload3 d_M_taken_31 ?_
        refine hg_iload2 d_M_taken_32 ?_
        refine hg_icmp_eq (tgt := 48) d_M_taken_33 (by decide) (fun h_122 => absurd h_122 (by decide)) (fun h_122 => ?_)
        refine hg_iload3 d_M_taken_36 ?_
        refine hg_if_le (tgt := 48) d_M_taken_37 (by decide) (fun h_123 => absurd h_123 (by decide)) (fun h_123 => ?_)
        refine hg_iload3 d_M_taken_40 ?_
        refine hg_cSi d_M_taken_41 l_M_315 rfl (Nat.le_of_ble_eq_true rfl) (m_M_above) rfl ?_
        rintro _ _ ⟨rfl, rfl⟩
        refine hg_eq1 (y := 1) (by decide) ?_
        refine hg_istore3 d_M_taken_44 rfl ?_
        refine hg_goto (tgt := 31) d_M_taken_45 (by decide) ?_
        refine hg_iload3 d_M_taken_31 ?_
        refine hg_iload2 d_M_taken_32 ?_
        refine hg_icmp_eq (tgt := 48) d_M_taken_33 (by decide) (fun h_124 => ?_) (fun h_124 => absurd (by decide) h_124)
        refine hg_iload3 d_M_taken_48 ?_
        refine hg_iload2 d_M_taken_49 ?_
        refine hg_icmp_ne (tgt := 62) d_M_taken_50 (by decide) (fun h_125 => absurd h_125 (by decide)) (fun h_125 => ?_)
        refine hg_aload0 d_M_taken_53 ?_
        refine hg_getR d_M_taken_54 f_M_9 rfl rfl (hX.lt (n := 1) ⟨by decide, by decide⟩ rfl (by omega)) (hR.m (j := 1) (q := (22, 0)) rfl) ?_
        refine hg_iload1 d_M_taken_57 ?_
        refine hg_iald_n (j := h) d_M_taken_58 rfl rfl (hX.lt (n := 28) ⟨by decide, by decide⟩ rfl (by omega)) (hX.jn (n := 6) (by decide) rfl (by omega)) ?_
        refine hg_eq1 (y := hs_hv (gN G) h 0) (hM.2.2.2.2.2.2.2.1 h 0 (by assumption) (by decide)) ?_
        refine hg_goto (tgt := 64) d_M_taken_59 (by decide) ?_
        refine hg_ireturn d_M_taken_64 rfl rfl ?_
        refine ⟨?_, I, Lg, rfl, hM0, fun _ _ => rfl, fun _ _ => rfl⟩
        unfold sp_taken; rw [iha, ihb]; simp only []; rw [ek, nI_clamp (by decide)]; rfl
      · refine hg_eq1 (y := 4) ek ?_
        show hg_WP l E _ Y_M_taken 0 0 30 [some (.ref (hg_ad E 21 0)), some (.int (nI h)), some (.int 2), none] [.int 4] (I, Lg, Rf, X) _
        refine hg_istore3 d_M_taken_30 rfl ?_
        refine hg_iload3 d_M_taken_31 ?_
        refine hg_iload2 d_M_taken_32 ?_
        refine hg_icmp_eq (tgt := 48) d_M_taken_33 (by decide) (fun h_126 => absurd h_126 (by decide)) (fun h_126 => ?_)
        refine hg_iload3 d_M_taken_36 ?_
        refine hg_if_le (tgt := 48) d_M_taken_37 (by decide) (fun h_127 => absurd h_127 (by decide)) (fun h_127 => ?_)
        refine hg_iload3 d_M_taken_40 ?_
        refine hg_cSi d_M_taken_41 l_M_315 rfl (Nat.le_of_ble_eq_true rfl) (m_M_above) rfl ?_
        rintro _ _ ⟨rfl, rfl⟩
        refine hg_eq1 (y := 1) (by decide) ?_
        refine hg_istore3 d_M_taken_44 rfl ?_
        refine hg_goto (tgt := 31) d_M_taken_45 (by decide) ?_
        refine hg_iload3 d_M_taken_31 ?_
        refine hg_iload2 d_M_taken_32 ?_
        refine hg_icmp_eq (tgt := 48) d_M_taken_33 (by decide) (fun h_128 => absurd h_128 (by decide)) (fun h_128 => ?_)
        refine hg_iload3 d_M_taken_36 ?_
        refine hg_if_le (tgt := 48) d_M_taken_37 (by decide) (fun h_129 => absurd h_129 (by decide)) (fun h_129 => ?_)
        refine hg_iload3 d_M_taken_40 ?_
        refine hg_cSi d_M_taken_41 l_M_315 rfl (Nat.le_of_ble_eq_true rfl) (m_M_above) rfl ?_
        rintro _ _ ⟨rfl, rfl⟩
        refine hg_eq1 (y := 0) (by decide) ?_
        refine hg_istore3 d_M_taken_44 rfl ?_
        refine hg_goto (tgt := 31) d_M_taken_45 (by decide) ?_
        refine hg_iload3 d_M_taken_31 ?_
        refine hg_iload2 d_M_taken_32 ?_
        refine hg_icmp_eq (tgt := 48) d_M_taken_33 (by decide) (fun h_130 => absurd h_130 (by decide)) (fun h_130 => ?_)
        refine hg_iload3 d_M_taken_36 ?_
        refine hg_if_le (tgt := 48) d_M_taken_37 (by decide) (fun h_131 => ?_) (fun h_131 => absurd (by decide) h_131)
        refine hg_iload3 d_M_taken_48 ?_
        refine hg_iload2 d_M_taken_49 ?_
        refine hg_icmp_ne (tgt := 62) d_M_taken_50 (by decide) (fun h_132 => ?_) (fun h_132 => absurd (by decide) h_132)
        refine hg_bipush (v := (-12)) d_M_taken_62 (by decide) ?_
        refine hg_ireturn d_M_taken_64 rfl rfl ?_
        refine ⟨?_, I, Lg, rfl, hM0, fun _ _ => rfl, fun _ _ => rfl⟩
        unfold sp_taken; rw [iha, ihb]; simp only []; rw [ek, nI_clamp (by decide)]; rfl
      · refine hg_eq1 (y := 4) ek ?_
        show hg_WP l E _ Y_M_taken 0 0 30 [some (.ref (hg_ad E 21 0)), some (.int (nI h)), some (.int 3), none] [.int 4] (I, Lg, Rf, X) _
        refine hg_istore3 d_M_taken_30 rfl ?_
        refine hg_iload3 d_M_taken_31 ?_
        refine hg_iload2 d_M_taken_32 ?_
        refine hg_icmp_eq (tgt := 48) d_M_taken_33 (by decide) (fun h_133 => absurd h_133 (by decide)) (fun h_133 => ?_)
        refine hg_iload3 d_M_taken_36 ?_
        refine hg_if_le (tgt := 48) d_M_taken_37 (by decide) (fun h_134 => absurd h_134 (by decide)) (fun h_134 => ?_)
        refine hg_iload3 d_M_taken_40 ?_
        refine hg_cSi d_M_taken_41 l_M_315 rfl (Nat.le_of_ble_eq_true rfl) (m_M_above) rfl ?_
        rintro _ _ ⟨rfl, rfl⟩
        refine hg_eq1 (y := 1) (by decide) ?_
        refine hg_istore3 d_M_taken_44 rfl ?_
        refine hg_goto (tgt := 31) d_M_taken_45 (by decide) ?_
        refine hg_iload3 d_M_taken_31 ?_
        refine hg_iload2 d_M_taken_32 ?_
        refine hg_icmp_eq (tgt := 48) d_M_taken_33 (by decide) (fun h_135 => absurd h_135 (by decide)) (fun h_135 => ?_)
        refine hg_iload3 d_M_taken_36 ?_
        refine hg_if_le (tgt := 48) d_M_taken_37 (by decide) (fun h_136 => absurd h_136 (by decide)) (fun h_136 => ?_)
        refine hg_iload3 d_M_taken_40 ?_
        refine hg_cSi d_M_taken_41 l_M_315 rfl (Nat.le_of_ble_eq_true rfl) (m_M_above) rfl ?_
        rintro _ _ ⟨rfl, rfl⟩
        refine hg_eq1 (y := 0) (by decide) ?_
        refine hg_istore3 d_M_taken_44 rfl ?_
        refine hg_goto (tgt := 31) d_M_taken_45 (by decide) ?_
        refine hg_iload3 d_M_taken_31 ?_
        refine hg_iload2 d_M_taken_32 ?_
        refine hg_icmp_eq (tgt := 48) d_M_taken_33 (by decide) (fun h_137 => absurd h_137 (by decide)) (fun h_137 => ?_)
        refine hg_iload3 d_M_taken_36 ?_
        refine hg_if_le (tgt := 48) d_M_taken_37 (by decide) (fun h_138 => ?_) (fun h_138 => absurd (by decide) h_138)
        refine hg_iload3 d_M_taken_48 ?_
        refine hg_iload2 d_M_taken_49 ?_
        refine hg_icmp_ne (tgt := 62) d_M_taken_50 (by decide) (fun h_139 => ?_) (fun h_139 => absurd (by decide) h_139)
        refine hg_bipush (v := (-12)) d_M_taken_62 (by decide) ?_
        refine hg_ireturn d_M_taken_64 rfl rfl ?_
        refine ⟨?_, I, Lg, rfl, hM0, fun _ _ => rfl, fun _ _ => rfl⟩
        unfold sp_taken; rw [iha, ihb]; simp only []; rw [ek, nI_clamp (by decide)]; rfl
      · refine hg_eq1 (y := 4) ek ?_
        show hg_WP l E _ Y_M_taken 0 0 30 [some (.ref (hg_ad E 21 0)), some (.int (nI h)), some (.int 4), none] [.int 4] (I, Lg, Rf, X) _
        refine hg_istore3 d_M_taken_30 rfl ?_
        refine hg_iload3 d_M_taken_31 ?_
        refine hg_iload2 d_M_taken_32 ?_
        refine hg_icmp_eq (tgt := 48) d_M_taken_33 (by decide) (fun h_140 => ?_) (fun h_140 => absurd (by decide) h_140)
        refine hg_iload3 d_M_taken_48 ?_
        refine hg_iload2 d_M_taken_49 ?_
        refine hg_icmp_ne (tgt := 62) d_M_taken_50 (by decide) (fun h_141 => absurd h_141 (by decide)) (fun h_141 => ?_)
        refine hg_aload0 d_M_taken_53 ?_
        refine hg_getR d_M_taken_54 f_M_9 rfl rfl (hX.lt (n := 1) ⟨by decide, by decide⟩ rfl (by omega)) (hR.m (j := 1) (q := (22, 0)) rfl) ?_
        refine hg_iload1 d_M_taken_57 ?_
        refine hg_iald_n (j := h) d_M_taken_58 rfl rfl (hX.lt (n := 28) ⟨by decide, by decide⟩ rfl (by omega)) (hX.jn (n := 6) (by decide) rfl (by omega)) ?_
        refine hg_eq1 (y := hs_hv (gN G) h 0) (hM.2.2.2.2.2.2.2.1 h 0 (by assumption) (by decide)) ?_
        refine hg_goto (tgt := 64) d_M_taken_59 (by decide) ?_
        refine hg_ireturn d_M_taken_64 rfl rfl ?_
        refine ⟨?_, I, Lg, rfl, hM0, fun _ _ => rfl, fun _ _ => rfl⟩
        unfold sp_taken; rw [iha, ihb]; simp only []; rw [ek, nI_clamp (by decide)]; rfl
      · refine hg_eq1 (y := 4) ek ?_
        show hg_WP l E _ Y_M_taken 0 0 30 [some (.ref (hg_ad E 21 0)), some (.int (nI h)), some (.int 5), none] [.int 4] (I, Lg, Rf, X) _
        refine hg_istore3 d_M_taken_30 rfl ?_
        refine hg_iload3 d_M_taken_31 ?_
        refine hg_iload2 d_M_taken_32 ?_
        refine hg_icmp_eq (tgt := 48) d_M_taken_33 (by decide) (fun h_142 => absurd h_142 (by decide)) (fun h_142 => ?_)
        refine hg_iload3 d_M_taken_36 ?_
        refine hg_if_le (tgt := 48) d_M_taken_37 (by decide) (fun h_143 => absurd h_143 (by decide)) (fun h_143 => ?_)
        refine hg_iload3 d_M_taken_40 ?_
        refine hg_cSi d_M_taken_41 l_M_315 rfl (Nat.le_of_ble_eq_true rfl) (m_M_above) rfl ?_
        rintro _ _ ⟨rfl, rfl⟩
        refine hg_eq1 (y := 1) (by decide) ?_
        refine hg_istore3 d_M_taken_44 rfl ?_
        refine hg_goto (tgt := 31) d_M_taken_45 (by decide) ?_
        refine hg_iload3 d_M_taken_31 ?_
        refine hg_iload2 d_M_taken_32 ?_
        refine hg_icmp_eq (tgt := 48) d_M_taken_33 (by decide) (fun h_144 => absurd h_144 (by decide)) (fun h_144 => ?_)
        refine hg_iload3 d_M_taken_36 ?_
        refine hg_if_le (tgt := 48) d_M_taken_37 (by decide) (fun h_145 => absurd h_145 (by decide)) (fun h_145 => ?_)
        refine hg_iload3 d_M_taken_40 ?_
        refine hg_cSi d_M_taken_41 l_M_315 rfl (Nat.le_of_ble_eq_true rfl) (m_M_above) rfl ?_
        rintro _ _ ⟨rfl, rfl⟩
        refine hg_eq1 (y := 0) (by decide) ?_
        refine hg_istore3 d_M_taken_44 rfl ?_
        refine hg_goto (tgt := 31) d_M_taken_45 (by decide) ?_
        refine hg_iload3 d_M_taken_31 ?_
        refine hg_iload2 d_M_taken_32 ?_
        refine hg_icmp_eq (tgt := 48) d_M_taken_33 (by decide) (fun h_146 => absurd h_146 (by decide)) (fun h_146 => ?_)
        refine hg_iload3 d_M_taken_36 ?_
        refine hg_if_le (tgt := 48) d_M_taken_37 (by decide) (fun h_147 => ?_) (fun h_147 => absurd (by decide) h_147)
        refine hg_iload3 d_M_taken_48 ?_
        refine hg_iload2 d_M_taken_49 ?_
        refine hg_icmp_ne (tgt := 62) d_M_taken_50 (by decide) (fun h_148 => ?_) (fun h_148 => absurd (by decide) h_148)
        refine hg_bipush (v := (-12)) d_M_taken_62 (by decide) ?_
        refine hg_ireturn d_M_taken_64 rfl rfl ?_
        refine ⟨?_, I, Lg, rfl, hM0, fun _ _ => rfl, fun _ _ => rfl⟩
        unfold sp_taken; rw [iha, ihb]; simp only []; rw [ek, nI_clamp (by decide)]; rfl
      · refine hg_eq1 (y := 4) ek ?_
        show hg_WP l E _ Y_M_taken 0 0 30 [some (.ref (hg_ad E 21 0)), some (.int (nI h)), some (.int 6), none] [.int 4] (I, Lg, Rf, X) _
        refine hg_istore3 d_M_taken_30 rfl ?_
        refine hg_iload3 d_M_taken_31 ?_
        refine hg_iload2 d_M_taken_32 ?_
        refine hg_icmp_eq (tgt := 48) d_M_taken_33 (by decide) (fun h_149 => absurd h_149 (by decide)) (fun h_149 => ?_)
        refine hg_iload3 d_M_taken_36 ?_
        refine hg_if_le (tgt := 48) d_M_taken_37 (by decide) (fun h_150 => absurd h_150 (by decide)) (fun h_150 => ?_)
        refine hg_iload3 d_M_taken_40 ?_
        refine hg_cSi d_M_taken_41 l_M_315 rfl (Nat.le_of_ble_eq_true rfl) (m_M_above) rfl ?_
        rintro _ _ ⟨rfl, rfl⟩
        refine hg_eq1 (y := 1) (by decide) ?_
        refine hg_istore3 d_M_taken_44 rfl ?_
        refine hg_goto (tgt := 31) d_M_taken_45 (by decide) ?_
        refine hg_iload3 d_M_taken_31 ?_
        refine hg_iload2 d_M_taken_32 ?_
        refine hg_icmp_eq (tgt := 48) d_M_taken_33 (by decide) (fun h_151 => absurd h_151 (by decide)) (fun h_151 => ?_)
        refine hg_iload3 d_M_taken_36 ?_
        refine hg_if_le (tgt := 48) d_M_taken_37 (by decide) (fun h_152 => absurd h_152 (by decide)) (fun h_152 => ?_)
        refine hg_iload3 d_M_taken_40 ?_
        refine hg_cSi d_M_taken_41 l_M_315 rfl (Nat.le_of_ble_eq_true rfl) (m_M_above) rfl ?_
        rintro _ _ ⟨rfl, rfl⟩
        refine hg_eq1 (y := 0) (by decide) ?_
        refine hg_istore3 d_M_taken_44 rfl ?_
        refine hg_goto (tgt := 31) d_M_taken_45 (by decide) ?_
        refine hg_iload3 d_M_taken_31 ?_
        refine hg_iload2 d_M_taken_32 ?_
        refine hg_icmp_eq (tgt := 48) d_M_taken_33 (by decide) (fun h_153 => absurd h_153 (by decide)) (fun h_153 => ?_)
        refine hg_iload3 d_M_taken_36 ?_
        refine hg_if_le (tgt := 48) d_M_taken_37 (by decide) (fun h_154 => ?_) (fun h_154 => absurd (by decide) h_154)
        refine hg_iload3 d_M_taken_48 ?_
        refine hg_iload2 d_M_taken_49 ?_
        refine hg_icmp_ne (tgt := 62) d_M_taken_50 (by decide) (fun h_155 => ?_) (fun h_155 => absurd (by decide) h_155)
        refine hg_bipush (v := (-12)) d_M_taken_62 (by decide) ?_
        refine hg_ireturn d_M_taken_64 rfl rfl ?_
        refine ⟨?_, I, Lg, rfl, hM0, fun _ _ => rfl, fun _ _ => rfl⟩
        unfold sp_taken; rw [iha, ihb]; simp only []; rw [ek, nI_clamp (by decide)]; rfl
      · refine hg_eq1 (y := 5) ek ?_
        show hg_WP l E _ Y_M_taken 0 0 30 [some (.ref (hg_ad E 21 0)), some (.int (nI h)), some (.int 0), none] [.int 5] (I, Lg, Rf, X) _
        refine hg_istore3 d_M_taken_30 rfl ?_
        refine hg_iload3 d_M_taken_31 ?_
        refine hg_iload2 d_M_taken_32 ?_
        refine hg_icmp_eq (tgt := 48) d_M_taken_33 (by decide) (fun h_156 => absurd h_156 (by decide)) (fun h_156 => ?_)
        refine hg_iload3 d_M_taken_36 ?_
        refine hg_if_le (tgt := 48) d_M_taken_37 (by decide) (fun h_157 => absurd h_157 (by decide)) (fun h_157 => ?_)
        refine hg_iload3 d_M_taken_40 ?_
        refine hg_cSi d_M_taken_41 l_M_315 rfl (Nat.le_of_ble_eq_true rfl) (m_M_above) rfl ?_
        rintro _ _ ⟨rfl, rfl⟩
        refine hg_eq1 (y := 2) (by decide) ?_
        refine hg_istore3 d_M_taken_44 rfl ?_
        refine hg_goto (tgt := 31) d_M_taken_45 (by decide) ?_
        refine hg_iload3 d_M_taken_31 ?_
        refine hg_iload2 d_M_taken_32 ?_
        refine hg_icmp_eq (tgt := 48) d_M_taken_33 (by decide) (fun h_158 => absurd h_158 (by decide)) (fun h_158 => ?_)
        refine hg_iload3 d_M_taken_36 ?_
        refine hg_if_le (tgt := 48) d_M_taken_37 (by decide) (fun h_159 => absurd h_159 (by decide)) (fun h_159 => ?_)
        refine hg_iload3 d_M_taken_40 ?_
        refine hg_cSi d_M_taken_41 l_M_315 rfl (Nat.le_of_ble_eq_true rfl) (m_M_above) rfl ?_
        rintro _ _ ⟨rfl, rfl⟩
        refine hg_eq1 (y := 0) (by decide) ?_
        refine hg_istore3 d_M_taken_44 rfl ?_
        refine hg_goto (tgt := 31) d_M_taken_45 (by decide) ?_
        refine hg_iload3 d_M_taken_31 ?_
        refine hg_iload2 d_M_taken_32 ?_
        refine hg_icmp_eq (tgt := 48) d_M_taken_33 (by decide) (fun h_160 => ?_) (fun h_160 => absurd (by decide) h_160)
        refine hg_iload3 d_M_taken_48 ?_
        refine hg_iload2 d_M_taken_49 ?_
        refine hg_icmp_ne (tgt := 62) d_M_taken_50 (by decide) (fun h_161 => absurd h_161 (by decide)) (fun h_161 => ?_)
        refine hg_aload0 d_M_taken_53 ?_
        refine hg_getR d_M_taken_54 f_M_9 rfl rfl (hX.lt (n := 1) ⟨by decide, by decide⟩ rfl (by omega)) (hR.m (j := 1) (q := (22, 0)) rfl) ?_
        refine hg_iload1 d_M_taken_57 ?_
        refine hg_iald_n (j := h) d_M_taken_58 rfl rfl (hX.lt (n := 28) ⟨by decide, by decide⟩ rfl (by omega)) (hX.jn (n := 6) (by decide) rfl (by omega)) ?_
        refine hg_eq1 (y := hs_hv (gN G) h 0) (hM.2.2.2.2.2.2.2.1 h 0 (by assumption) (by decide)) ?_
        refine hg_goto (tgt := 64) d_M_taken_59 (by decide) ?_
        refine hg_ireturn d_M_taken_64 rfl rfl ?_
        refine ⟨?_, I, Lg, rfl, hM0, fun _ _ => rfl, fun _ _ => rfl⟩
        unfold sp_taken; rw [iha, ihb]; simp only []; rw [ek, nI_clamp (by decide)]; rfl
      · refine hg_eq1 (y := 5) ek ?_
        show hg_WP l E _ Y_M_taken 0 0 30 [some (.ref (hg_ad E 21 0)), some (.int (nI h)), some (.int 1), none] [.int 5] (I, Lg, Rf, X) _
        refine hg_istore3 d_M_taken_30 rfl ?_
        refine hg_iload3 d_M_taken_31 ?_
        refine hg_iload2 d_M_taken_32 ?_
        refine hg_icmp_eq (tgt := 48) d_M_taken_33 (by decide) (fun h_162 => absurd h_162 (by decide)) (fun h_162 => ?_)
        refine hg_iload3 d_M_taken_36 ?_
        refine hg_if_le (tgt := 48) d_M_taken_37 (by decide) (fun h_163 => absurd h_163 (by decide)) (fun h_163 => ?_)
        refine hg_iload3 d_M_taken_40 ?_
        refine hg_cSi d_M_taken_41 l_M_315 rfl (Nat.le_of_ble_eq_true rfl) (m_M_above) rfl ?_
        rintro _ _ ⟨rfl, rfl⟩
        refine hg_eq1 (y := 2) (by decide) ?_
        refine hg_istore3 d_M_taken_44 rfl ?_
        refine hg_goto (tgt := 31) d_M_taken_45 (by decide) ?_
        refine hg_iload3 d_M_taken_31 ?_
        refine hg_iload2 d_M_taken_32 ?_
        refine hg_icmp_eq (tgt := 48) d_M_taken_33 (by decide) (fun h_164 => absurd h_164 (by decide)) (fun h_164 => ?_)
        refine hg_iload3 d_M_taken_36 ?_
        refine hg_if_le (tgt := 48) d_M_taken_37 (by decide) (fun h_165 => absurd h_165 (by decide)) (fun h_165 => ?_)
        refine hg_iload3 d_M_taken_40 ?_
        refine hg_cSi d_M_taken_41 l_M_315 rfl (Nat.le_of_ble_eq_true rfl) (m_M_above) rfl ?_
        rintro _ _ ⟨rfl, rfl⟩
        refine hg_eq1 (y := 0) (by decide) ?_
        refine hg_istore3 d_M_taken_44 rfl ?_
        refine hg_goto (tgt := 31) d_M_taken_45 (by decide) ?_
        refine hg_iload3 d_M_taken_31 ?_
        refine hg_iload2 d_M_taken_32 ?_
        refine hg_icmp_eq (tgt := 48) d_M_taken_33 (by decide) (fun h_166 => absurd h_166 (by decide)) (fun h_166 => ?_)
        refine hg_iload3 d_M_taken_36 ?_
        refine hg_if_le (tgt := 48) d_M_taken_37 (by decide) (fun h_167 => ?_) (fun h_167 => absurd (by decide) h_167)
        refine hg_iload3 d_M_taken_48 ?_
        refine hg_iload2 d_M_taken_49 ?_
        refine hg_icmp_ne (tgt := 62) d_M_taken_50 (by decide) (fun h_168 => ?_) (fun h_168 => absurd (by decide) h_168)
        refine hg_bipush (v := (-12)) d_M_taken_62 (by decide) ?_
        refine hg_ireturn d_M_taken_64 rfl rfl ?_
        refine ⟨?_, I, Lg, rfl, hM0, fun _ _ => rfl, fun _ _ => rfl⟩
        unfold sp_taken; rw [iha, ihb]; simp only []; rw [ek, nI_clamp (by decide)]; rfl
      · refine hg_eq1 (y := 5) ek ?_
        show hg_WP l E _ Y_M_taken 0 0 30 [some (.ref (hg_ad E 21 0)), some (.int (nI h)), some (.int 2), none] [.int 5] (I, Lg, Rf, X) _
        refine hg_istore3 d_M_taken_30 rfl ?_
        refine hg_iload3 d_M_taken_31 ?_
        refine hg_iload2 d_M_taken_32 ?_
        refine hg_icmp_eq (tgt := 48) d_M_taken_33 (by decide) (fun h_169 => absurd h_169 (by decide)) (fun h_169 => ?_)
        refine hg_iload3 d_M_taken_36 ?_
        refine hg_if_le (tgt := 48) d_M_taken_37 (by decide) (fun h_170 => absurd h_170 (by decide)) (fun h_170 => ?_)
        refine hg_iload3 d_M_taken_40 ?_
        refine hg_cSi d_M_taken_41 l_M_315 rfl (Nat.le_of_ble_eq_true rfl) (m_M_above) rfl ?_
        rintro _ _ ⟨rfl, rfl⟩
        refine hg_eq1 (y := 2) (by decide) ?_
        refine hg_istore3 d_M_taken_44 rfl ?_
        refine hg_goto (tgt := 31) d_M_taken_45 (by decide) ?_
        refine hg_iload3 d_M_taken_31 ?_
        refine hg_iload2 d_M_taken_32 ?_
        refine hg_icmp_eq (tgt := 48) d_M_taken_33 (by decide) (fun h_171 => ?_) (fun h_171 => absurd (by decide) h_171)
        refine hg_iload3 d_M_taken_48 ?_
        refine hg_iload2 d_M_taken_49 ?_
        refine hg_icmp_ne (tgt := 62) d_M_taken_50 (by decide) (fun h_172 => absurd h_172 (by decide)) (fun h_172 => ?_)
        refine hg_aload0 d_M_taken_53 ?_
        refine hg_getR d_M_taken_54 f_M_9 rfl rfl (hX.lt (n := 1) ⟨by decide, by decide⟩ rfl (by omega)) (hR.m (j := 1) (q := (22, 0)) rfl) ?_
        refine hg_iload1 d_M_taken_57 ?_
        refine hg_iald_n (j := h) d_M_taken_58 rfl rfl (hX.lt (n := 28) ⟨by decide, by decide⟩ rfl (by omega)) (hX.jn (n := 6) (by decide) rfl (by omega)) ?_
        refine hg_eq1 (y := hs_hv (gN G) h 0) (hM.2.2.2.2.2.2.2.1 h 0 (by assumption) (by decide)) ?_
        refine hg_goto (tgt := 64) d_M_taken_59 (by decide) ?_
        refine hg_ireturn d_M_taken_64 rfl rfl ?_
        refine ⟨?_, I, Lg, rfl, hM0, fun _ _ => rfl, fun _ _ => rfl⟩
        unfold sp_taken; rw [iha, ihb]; simp only []; rw [ek, nI_clamp (by decide)]; rfl
      · refine hg_eq1 (y := 5) ek ?_
        show hg_WP l E _ Y_M_taken 0 0 30 [some (.ref (hg_ad E 21 0)), some (.int (nI h)), some (.int 3), none] [.int 5] (I, Lg, Rf, X) _
        refine hg_istore3 d_M_taken_30 rfl ?_
        refine hg_iload3 d_M_taken_31 ?_
        refine hg_iload2 d_M_taken_32 ?_
        refine hg_icmp_eq (tgt := 48) d_M_taken_33 (by decide) (fun h_173 => absurd h_173 (by decide)) (fun h_173 => ?_)
        refine hg_iload3 d_M_taken_36 ?_
        refine hg_if_le (tgt := 48) d_M_taken_37 (by decide) (fun h_174 => absurd h_174 (by decide)) (fun h_174 => ?_)
        refine hg_iload3 d_M_taken_40 ?_
        refine hg_cSi d_M_taken_41 l_M_315 rfl (Nat.le_of_ble_eq_true rfl) (m_M_above) rfl ?_
        rintro _ _ ⟨rfl, rfl⟩
        refine hg_eq1 (y := 2) (by decide) ?_
        refine hg_istore3 d_M_taken_44 rfl ?_
        refine hg_goto (tgt := 31) d_M_taken_45 (by decide) ?_
        refine hg_iload3 d_M_taken_31 ?_
        refine hg_iload2 d_M_taken_32 ?_
        refine hg_icmp_eq (tgt := 48) d_M_taken_33 (by decide) (fun h_175 => absurd h_175 (by decide)) (fun h_175 => ?_)
        refine hg_iload3 d_M_taken_36 ?_
        refine hg_if_le (tgt := 48) d_M_taken_37 (by decide) (fun h_176 => absurd h_176 (by decide)) (fun h_176 => ?_)
        refine hg_iload3 d_M_taken_40 ?_
        refine hg_cSi d_M_taken_41 l_M_315 rfl (Nat.le_of_ble_eq_true rfl) (m_M_above) rfl ?_
        rintro _ _ ⟨rfl, rfl⟩
        refine hg_eq1 (y := 0) (by decide) ?_
        refine hg_istore3 d_M_taken_44 rfl ?_
        refine hg_goto (tgt := 31) d_M_taken_45 (by decide) ?_
        refine hg_iload3 d_M_taken_31 ?_
        refine hg_iload2 d_M_taken_32 ?_
        refine hg_icmp_eq (tgt := 48) d_M_taken_33 (by decide) (fun h_177 => absurd h_177 (by decide)) (fun h_177 => ?_)
        refine hg_iload3 d_M_taken_36 ?_
        refine hg_if_le (tgt := 48) d_M_taken_37 (by decide) (fun h_178 => ?_) (fun h_178 => absurd (by decide) h_178)
        refine hg_iload3 d_M_taken_48 ?_
        refine hg_iload2 d_M_taken_49 ?_
        refine hg_icmp_ne (tgt := 62) d_M_taken_50 (by decide) (fun h_179 => ?_) (fun h_179 => absurd (by decide) h_179)
        refine hg_bipush (v := (-12)) d_M_taken_62 (by decide) ?_
        refine hg_ireturn d_M_taken_64 rfl rfl ?_
        refine ⟨?_, I, Lg, rfl, hM0, fun _ _ => rfl, fun _ _ => rfl⟩
        unfold sp_taken; rw [iha, ihb]; simp only []; rw [ek, nI_clamp (by decide)]; rfl
      · refine hg_eq1 (y := 5) ek ?_
        show hg_WP l E _ Y_M_taken 0 0 30 [some (.ref (hg_ad E 21 0)), some (.int (nI h)), some (.int 4), none] [.int 5] (I, Lg, Rf, X) _
        refine hg_istore3 d_M_taken_30 rfl ?_
        refine hg_iload3 d_M_taken_31 ?_
        refine hg_iload2 d_M_taken_32 ?_
        refine hg_icmp_eq (tgt := 48) d_M_taken_33 (by decide) (fun h_180 => absurd h_180 (by decide)) (fun h_180 => ?_)
        refine hg_iload3 d_M_taken_36 ?_
        refine hg_if_le (tgt := 48) d_M_taken_37 (by decide) (fun h_181 => absurd h_181 (by decide)) (fun h_181 => ?_)
        refine hg_iload3 d_M_taken_40 ?_
        refine hg_cSi d_M_taken_41 l_M_315 rfl (Nat.le_of_ble_eq_true rfl) (m_M_above) rfl ?_
        rintro _ _ ⟨rfl, rfl⟩
        refine hg_eq1 (y := 2) (by decide) ?_
        refine hg_istore3 d_M_taken_44 rfl ?_
        refine hg_goto (tgt := 31) d_M_taken_45 (by decide) ?_
        refine hg_iload3 d_M_taken_31 ?_
        refine hg_iload2 d_M_taken_32 ?_
        refine hg_icmp_eq (tgt := 48) d_M_taken_33 (by decide) (fun h_182 => absurd h_182 (by decide)) (fun h_182 => ?_)
        refine hg_iload3 d_M_taken_36 ?_
        refine hg_if_le (tgt := 48) d_M_taken_37 (by decide) (fun h_183 => absurd h_183 (by decide)) (fun h_183 => ?_)
        refine hg_iload3 d_M_taken_40 ?_
        refine hg_cSi d_M_taken_41 l_M_315 rfl (Nat.le_of_ble_eq_true rfl) (m_M_above) rfl ?_
        rintro _ _ ⟨rfl, rfl⟩
        refine hg_eq1 (y := 0) (by decide) ?_
        refine hg_istore3 d_M_taken_44 rfl ?_
        refine hg_goto (tgt := 31) d_M_taken_45 (by decide) ?_
        refine hg_iload3 d_M_taken_31 ?_
        refine hg_iload2 d_M_taken_32 ?_
        refine hg_icmp_eq (tgt := 48) d_M_taken_33 (by decide) (fun h_184 => absurd h_184 (by decide)) (fun h_184 => ?_)
        refine hg_iload3 d_M_taken_36 ?_
        refine hg_if_le (tgt := 48) d_M_taken_37 (by decide) (fun h_185 => ?_) (fun h_185 => absurd (by decide) h_185)
        refine hg_iload3 d_M_taken_48 ?_
        refine hg_iload2 d_M_taken_49 ?_
        refine hg_icmp_ne (tgt := 62) d_M_taken_50 (by decide) (fun h_186 => ?_) (fun h_186 => absurd (by decide) h_186)
        refine hg_bipush (v := (-12)) d_M_taken_62 (by decide) ?_
        refine hg_ireturn d_M_taken_64 rfl rfl ?_
        refine ⟨?_, I, Lg, rfl, hM0, fun _ _ => rfl, fun _ _ => rfl⟩
        unfold sp_taken; rw [iha, ihb]; simp only []; rw [ek, nI_clamp (by decide)]; rfl
      · refine hg_eq1 (y := 5) ek ?_
        show hg_WP l E _ Y_M_taken 0 0 30 [some (.ref (hg_ad E 21 0)), some (.int (nI h)), some (.int 5), none] [.int 5] (I, Lg, Rf, X) _
        refine hg_istore3 d_M_taken_30 rfl ?_
        refine hg_iload3 d_M_taken_31 ?_
        refine hg_iload2 d_M_taken_32 ?_
        refine hg_icmp_eq (tgt := 48) d_M_taken_33 (by decide) (fun h_187 => ?_) (fun h_187 => absurd (by decide) h_187)
        refine hg_iload3 d_M_taken_48 ?_
        refine hg_iload2 d_M_taken_49 ?_
        refine hg_icmp_ne (tgt := 62) d_M_taken_50 (by decide) (fun h_188 => absurd h_188 (by decide)) (fun h_188 => ?_)
        refine hg_aload0 d_M_taken_53 ?_
        refine hg_getR d_M_taken_54 f_M_9 rfl rfl (hX.lt (n := 1) ⟨by decide, by decide⟩ rfl (by omega)) (hR.m (j := 1) (q := (22, 0)) rfl) ?_
        refine hg_iload1 d_M_taken_57 ?_
        refine hg_iald_n (j := h) d_M_taken_58 rfl rfl (hX.lt (n := 28) ⟨by decide, by decide⟩ rfl (by omega)) (hX.jn (n := 6) (by decide) rfl (by omega)) ?_
        refine hg_eq1 (y := hs_hv (gN G) h 0) (hM.2.2.2.2.2.2.2.1 h 0 (by assumption) (by decide)) ?_
        refine hg_goto (tgt := 64) d_M_taken_59 (by decide) ?_
        refine hg_ireturn d_M_taken_64 rfl rfl ?_
        refine ⟨?_, I, Lg, rfl, hM0, fun _ _ => rfl, fun _ _ => rfl⟩
        unfold sp_taken; rw [iha, ihb]; simp only []; rw [ek, nI_clamp (by decide)]; rfl
      · refine hg_eq1 (y := 5) ek ?_
        show hg_WP l E _ Y_M_taken 0 0 30 [some (.ref (hg_ad E 21 0)), some (.int (nI h)), some (.int 6), none] [.int 5] (I, Lg, Rf, X) _
        refine hg_istore3 d_M_taken_30 rfl ?_
        refine hg_iload3 d_M_taken_31 ?_
        refine hg_iload2 d_M_taken_32 ?_
        refine hg_icmp_eq (tgt := 48) d_M_taken_33 (by decide) (fun h_189 => absurd h_189 (by decide)) (fun h_189 => ?_)
        refine hg_iload3 d_M_taken_36 ?_
        refine hg_if_le (tgt := 48) d_M_taken_37 (by decide) (fun h_190 => absurd h_190 (by decide)) (fun h_190 => ?_)
        refine hg_iload3 d_M_taken_40 ?_
        refine hg_cSi d_M_taken_41 l_M_315 rfl (Nat.le_of_ble_eq_true rfl) (m_M_above) rfl ?_
        rintro _ _ ⟨rfl, rfl⟩
        refine hg_eq1 (y := 2) (by decide) ?_
        refine hg_istore3 d_M_taken_44 rfl ?_
        refine hg_goto (tgt := 31) d_M_taken_45 (by decide) ?_
        refine hg_iload3 d_M_taken_31 ?_
        refine hg_iload2 d_M_taken_32 ?_
        refine hg_icmp_eq (tgt := 48) d_M_taken_33 (by decide) (fun h_191 => absurd h_191 (by decide)) (fun h_191 => ?_)
        refine hg_iload3 d_M_taken_36 ?_
        refine hg_if_le (tgt := 48) d_M_taken_37 (by decide) (fun h_192 => absurd h_192 (by decide)) (fun h_192 => ?_)
        refine hg_iload3 d_M_taken_40 ?_
        refine hg_cSi d_M_taken_41 l_M_315 rfl (Nat.le_of_ble_eq_true rfl) (m_M_above) rfl ?_
        rintro _ _ ⟨rfl, rfl⟩
        refine hg_eq1 (y := 0) (by decide) ?_
        refine hg_istore3 d_M_taken_44 rfl ?_
        refine hg_goto (tgt := 31) d_M_taken_45 (by decide) ?_
        refine hg_iload3 d_M_taken_31 ?_
        refine hg_iload2 d_M_taken_32 ?_
        refine hg_icmp_eq (tgt := 48) d_M_taken_33 (by decide) (fun h_193 => absurd h_193 (by decide)) (fun h_193 => ?_)
        refine hg_iload3 d_M_taken_36 ?_
        refine hg_if_le (tgt := 48) d_M_taken_37 (by decide) (fun h_194 => ?_) (fun h_194 => absurd (by decide) h_194)
        refine hg_iload3 d_M_taken_48 ?_
        refine hg_iload2 d_M_taken_49 ?_
        refine hg_icmp_ne (tgt := 62) d_M_taken_50 (by decide) (fun h_195 => ?_) (fun h_195 => absurd (by decide) h_195)
        refine hg_bipush (v := (-12)) d_M_taken_62 (by decide) ?_
        refine hg_ireturn d_M_taken_64 rfl rfl ?_
        refine ⟨?_, I, Lg, rfl, hM0, fun _ _ => rfl, fun _ _ => rfl⟩
        unfold sp_taken; rw [iha, ihb]; simp only []; rw [ek, nI_clamp (by decide)]; rfl
      · refine hg_eq1 (y := 6) ek ?_
        show hg_WP l E _ Y_M_taken 0 0 30 [some (.ref (hg_ad E 21 0)), some (.int (nI h)), some (.int 0), none] [.int 6] (I, Lg, Rf, X) _
        refine hg_istore3 d_M_taken_30 rfl ?_
        refine hg_iload3 d_M_taken_31 ?_
        refine hg_iload2 d_M_taken_32 ?_
        refine hg_icmp_eq (tgt := 48) d_M_taken_33 (by decide) (fun h_196 => absurd h_196 (by decide)) (fun h_196 => ?_)
        refine hg_iload3 d_M_taken_36 ?_
        refine hg_if_le (tgt := 48) d_M_taken_37 (by decide) (fun h_197 => absurd h_197 (by decide)) (fun h_197 => ?_)
        refine hg_iload3 d_M_taken_40 ?_
        refine hg_cSi d_M_taken_41 l_M_315 rfl (Nat.le_of_ble_eq_true rfl) (m_M_above) rfl ?_
        rintro _ _ ⟨rfl, rfl⟩
        refine hg_eq1 (y := 3) (by decide) ?_
        refine hg_istore3 d_M_taken_44 rfl ?_
        refine hg_goto (tgt := 31) d_M_taken_45 (by decide) ?_
        refine hg_iload3 d_M_taken_31 ?_
        refine hg_iload2 d_M_taken_32 ?_
        refine hg_icmp_eq (tgt := 48) d_M_taken_33 (by decide) (fun h_198 => absurd h_198 (by decide)) (fun h_198 => ?_)
        refine hg_iload3 d_M_taken_36 ?_
        refine hg_if_le (tgt := 48) d_M_taken_37 (by decide) (fun h_199 => absurd h_199 (by decide)) (fun h_199 => ?_)
        refine hg_iload3 d_M_taken_40 ?_
        refine hg_cSi d_M_taken_41 l_M_315 rfl (Nat.le_of_ble_eq_true rfl) (m_M_above) rfl ?_
        rintro _ _ ⟨rfl, rfl⟩
        refine hg_eq1 (y := 0) (by decide) ?_
        refine hg_istore3 d_M_taken_44 rfl ?_
        refine hg_goto (tgt := 31) d_M_taken_45 (by decide) ?_
        refine hg_iload3 d_M_taken_31 ?_
        refine hg_iload2 d_M_taken_32 ?_
        refine hg_icmp_eq (tgt := 48) d_M_taken_33 (by decide) (fun h_200 => ?_) (fun h_200 => absurd (by decide) h_200)
        refine hg_iload3 d_M_taken_48 ?_
        refine hg_iload2 d_M_taken_49 ?_
        refine hg_icmp_ne (tgt := 62) d_M_taken_50 (by decide) (fun h_201 => absurd h_201 (by decide)) (fun h_201 => ?_)
        refine hg_aload0 d_M_taken_53 ?_
        refine hg_getR d_M_taken_54 f_M_9 rfl rfl (hX.lt (n := 1) ⟨by decide, by decide⟩ rfl (by omega)) (hR.m (j := 1) (q := (22, 0)) rfl) ?_
        refine hg_iload1 d_M_taken_57 ?_
        refine hg_iald_n (j := h) d_M_taken_58 rfl rfl (hX.lt (n := 28) ⟨by decide, by decide⟩ rfl (by omega)) (hX.jn (n := 6) (by decide) rfl (by omega)) ?_
        refine hg_eq1 (y := hs_hv (gN G) h 0) (hM.2.2.2.2.2.2.2.1 h 0 (by assumption) (by decide)) ?_
        refine hg_goto (tgt := 64) d_M_taken_59 (by decide) ?_
        refine hg_ireturn d_M_taken_64 rfl rfl ?_
        refine ⟨?_, I, Lg, rfl, hM0, fun _ _ => rfl, fun _ _ => rfl⟩
        unfold sp_taken; rw [iha, ihb]; simp only []; rw [ek, nI_clamp (by decide)]; rfl
      · refine hg_eq1 (y := 6) ek ?_
        show hg_WP l E _ Y_M_taken 0 0 30 [some (.ref (hg_ad E 21 0)), some (.int (nI h)), some (.int 1), none] [.int 6] (I, Lg, Rf, X) _
        refine hg_istore3 d_M_taken_30 rfl ?_
        refine hg_iload3 d_M_taken_31 ?_
        refine hg_iload2 d_M_taken_32 ?_
        refine hg_icmp_eq (tgt := 48) d_M_taken_33 (by decide) (fun h_202 => absurd h_202 (by decide)) (fun h_202 => ?_)
        refine hg_iload3 d_M_taken_36 ?_
        refine hg_if_le (tgt := 48) d_M_taken_37 (by decide) (fun h_203 => absurd h_203 (by decide)) (fun h_203 => ?_)
        refine hg_iload3 d_M_taken_40 ?_
        refine hg_cSi d_M_taken_41 l_M_315 rfl (Nat.le_of_ble_eq_true rfl) (m_M_above) rfl ?_
        rintro _ _ ⟨rfl, rfl⟩
        refine hg_eq1 (y := 3) (by decide) ?_
        refine hg_istore3 d_M_taken_44 rfl ?_
        refine hg_goto (tgt := 31) d_M_taken_45 (by decide) ?_
        refine hg_iload3 d_M_taken_31 ?_
        refine hg_iload2 d_M_taken_32 ?_
        refine hg_icmp_eq (tgt := 48) d_M_taken_33 (by decide) (fun h_204 => absurd h_204 (by decide)) (fun h_204 => ?_)
        refine hg_iload3 d_M_taken_36 ?_
        refine hg_if_le (tgt := 48) d_M_taken_37 (by decide) (fun h_205 => absurd h_205 (by decide)) (fun h_205 => ?_)
        refine hg_iload3 d_M_taken_40 ?_
        refine hg_cSi d_M_taken_41 l_M_315 rfl (Nat.le_of_ble_eq_true rfl) (m_M_above) rfl ?_
        rintro _ _ ⟨rfl, rfl⟩
        refine hg_eq1 (y := 0) (by decide) ?_
        refine hg_istore3 d_M_taken_44 rfl ?_
        refine hg_goto (tgt := 31) d_M_taken_45 (by decide) ?_
        refine hg_iload3 d_M_taken_31 ?_
        refine hg_iload2 d_M_taken_32 ?_
        refine hg_icmp_eq (tgt := 48) d_M_taken_33 (by decide) (fun h_206 => absurd h_206 (by decide)) (fun h_206 => ?_)
        refine hg_iload3 d_M_taken_36 ?_
        refine hg_if_le (tgt := 48) d_M_taken_37 (by decide) (fun h_207 => ?_) (fun h_207 => absurd (by decide) h_207)
        refine hg_iload3 d_M_taken_48 ?_
        refine hg_iload2 d_M_taken_49 ?_
        refine hg_icmp_ne (tgt := 62) d_M_taken_50 (by decide) (fun h_208 => ?_) (fun h_208 => absurd (by decide) h_208)
        refine hg_bipush (v := (-12)) d_M_taken_62 (by decide) ?_
        refine hg_ireturn d_M_taken_64 rfl rfl ?_
        refine ⟨?_, I, Lg, rfl, hM0, fun _ _ => rfl, fun _ _ => rfl⟩
        unfold sp_taken; rw [iha, ihb]; simp only []; rw [ek, nI_clamp (by decide)]; rfl
      · refine hg_eq1 (y := 6) ek ?_
        show hg_WP l E _ Y_M_taken 0 0 30 [some (.ref (hg_ad E 21 0)), some (.int (nI h)), some (.int 2), none] [.int 6] (I, Lg, Rf, X) _
        refine hg_istore3 d_M_taken_30 rfl ?_
        refine hg_iload3 d_M_taken_31 ?_
        refine hg_iload2 d_M_taken_32 ?_
        refine hg_icmp_eq (tgt := 48) d_M_taken_33 (by decide) (fun h_209 => absurd h_209 (by decide)) (fun h_209 => ?_)
        refine hg_iload3 d_M_taken_36 ?_
        refine hg_if_le (tgt := 48) d_M_taken_37 (by decide) (fun h_210 => absurd h_210 (by decide)) (fun h_210 => ?_)
        refine hg_iload3 d_M_taken_40 ?_
        refine hg_cSi d_M_taken_41 l_M_315 rfl (Nat.le_of_ble_eq_true rfl) (m_M_above) rfl ?_
        rintro _ _ ⟨rfl, rfl⟩
        refine hg_eq1 (y := 3) (by decide) ?_
        refine hg_istore3 d_M_taken_44 rfl ?_
        refine hg_goto (tgt := 31) d_M_taken_45 (by decide) ?_
        refine hg_iload3 d_M_taken_31 ?_
        refine hg_iload2 d_M_taken_32 ?_
        refine hg_icmp_eq (tgt := 48) d_M_taken_33 (by decide) (fun h_211 => absurd h_211 (by decide)) (fun h_211 => ?_)
        refine hg_iload3 d_M_taken_36 ?_
        refine hg_if_le (tgt := 48) d_M_taken_37 (by decide) (fun h_212 => absurd h_212 (by decide)) (fun h_212 => ?_)
        refine hg_iload3 d_M_taken_40 ?_
        refine hg_cSi d_M_taken_41 l_M_315 rfl (Nat.le_of_ble_eq_true rfl) (m_M_above) rfl ?_
        rintro _ _ ⟨rfl, rfl⟩
        refine hg_eq1 (y := 0) (by decide) ?_
        refine hg_istore3 d_M_taken_44 rfl ?_
        refine hg_goto (tgt := 31) d_M_taken_45 (by decide) ?_
        refine hg_iload3 d_M_taken_31 ?_
        refine hg_iload2 d_M_taken_32 ?_
        refine hg_icmp_eq (tgt := 48) d_M_taken_33 (by decide) (fun h_213 => absurd h_213 (by decide)) (fun h_213 => ?_)
        refine hg_iload3 d_M_taken_36 ?_
        refine hg_if_le (tgt := 48) d_M_taken_37 (by decide) (fun h_214 => ?_) (fun h_214 => absurd (by decide) h_214)
        refine hg_iload3 d_M_taken_48 ?_
        refine hg_iload2 d_M_taken_49 ?_
        refine hg_icmp_ne (tgt := 62) d_M_taken_50 (by decide) (fun h_215 => ?_) (fun h_215 => absurd (by decide) h_215)
        refine hg_bipush (v := (-12)) d_M_taken_62 (by decide) ?_
        refine hg_ireturn d_M_taken_64 rfl rfl ?_
        refine ⟨?_, I, Lg, rfl, hM0, fun _ _ => rfl, fun _ _ => rfl⟩
        unfold sp_taken; rw [iha, ihb]; simp only []; rw [ek, nI_clamp (by decide)]; rfl
      · refine hg_eq1 (y := 6) ek ?_
        show hg_WP l E _ Y_M_taken 0 0 30 [some (.ref (hg_ad E 21 0)), some (.int (nI h)), some (.int 3), none] [.int 6] (I, Lg, Rf, X) _
        refine hg_istore3 d_M_taken_30 rfl ?_
        refine hg_iload3 d_M_taken_31 ?_
        refine hg_iload2 d_M_taken_32 ?_
        refine hg_icmp_eq (tgt := 48) d_M_taken_33 (by decide) (fun h_216 => absurd h_216 (by decide)) (fun h_216 => ?_)
        refine hg_iload3 d_M_taken_36 ?_
        refine hg_if_le (tgt := 48) d_M_taken_37 (by decide) (fun h_217 => absurd h_217 (by decide)) (fun h_217 => ?_)
        refine hg_iload3 d_M_taken_40 ?_
        refine hg_cSi d_M_taken_41 l_M_315 rfl (Nat.le_of_ble_eq_true rfl) (m_M_above) rfl ?_
        rintro _ _ ⟨rfl, rfl⟩
        refine hg_eq1 (y := 3) (by decide) ?_
        refine hg_istore3 d_M_taken_44 rfl ?_
        refine hg_goto (tgt := 31) d_M_taken_45 (by decide) ?_
        refine hg_iload3 d_M_taken_31 ?_
        refine hg_iload2 d_M_taken_32 ?_
        refine hg_icmp_eq (tgt := 48) d_M_taken_33 (by decide) (fun h_218 => ?_) (fun h_218 => absurd (by decide) h_218)
        refine hg_iload3 d_M_taken_48 ?_
        refine hg_iload2 d_M_taken_49 ?_
        refine hg_icmp_ne (tgt := 62) d_M_taken_50 (by decide) (fun h_219 => absurd h_219 (by decide)) (fun h_219 => ?_)
        refine hg_aload0 d_M_taken_53 ?_
        refine hg_getR d_M_taken_54 f_M_9 rfl rfl (hX.lt (n := 1) ⟨by decide, by decide⟩ rfl (by omega)) (hR.m (j := 1) (q := (22, 0)) rfl) ?_
        refine hg_iload1 d_M_taken_57 ?_
        refine hg_iald_n (j := h) d_M_taken_58 rfl rfl (hX.lt (n := 28) ⟨by decide, by decide⟩ rfl (by omega)) (hX.jn (n := 6) (by decide) rfl (by omega)) ?_
        refine hg_eq1 (y := hs_hv (gN G) h 0) (hM.2.2.2.2.2.2.2.1 h 0 (by assumption) (by decide)) ?_
        refine hg_goto (tgt := 64) d_M_taken_59 (by decide) ?_
        refine hg_ireturn d_M_taken_64 rfl rfl ?_
        refine ⟨?_, I, Lg, rfl, hM0, fun _ _ => rfl, fun _ _ => rfl⟩
        unfold sp_taken; rw [iha, ihb]; simp only []; rw [ek, nI_clamp (by decide)]; rfl
      · refine hg_eq1 (y := 6) ek ?_
        show hg_WP l E _ Y_M_taken 0 0 30 [some (.ref (hg_ad E 21 0)), some (.int (nI h)), some (.int 4), none] [.int 6] (I, Lg, Rf, X) _
        refine hg_istore3 d_M_taken_30 rfl ?_
        refine hg_iload3 d_M_taken_31 ?_
        refine hg_iload2 d_M_taken_32 ?_
        refine hg_icmp_eq (tgt := 48) d_M_taken_33 (by decide) (fun h_220 => absurd h_220 (by decide)) (fun h_220 => ?_)
        refine hg_iload3 d_M_taken_36 ?_
        refine hg_if_le (tgt := 48) d_M_taken_37 (by decide) (fun h_221 => absurd h_221 (by decide)) (fun h_221 => ?_)
        refine hg_iload3 d_M_taken_40 ?_
        refine hg_cSi d_M_taken_41 l_M_315 rfl (Nat.le_of_ble_eq_true rfl) (m_M_above) rfl ?_
        rintro _ _ ⟨rfl, rfl⟩
        refine hg_eq1 (y := 3) (by decide) ?_
        refine hg_istore3 d_M_taken_44 rfl ?_
        refine hg_goto (tgt := 31) d_M_taken_45 (by decide) ?_
        refine hg_iload3 d_M_taken_31 ?_
        refine hg_iload2 d_M_taken_32 ?_
        refine hg_icmp_eq (tgt := 48) d_M_taken_33 (by decide) (fun h_222 => absurd h_222 (by decide)) (fun h_222 => ?_)
        refine hg_iload3 d_M_taken_36 ?_
        refine hg_if_le (tgt := 48) d_M_taken_37 (by decide) (fun h_223 => absurd h_223 (by decide)) (fun h_223 => ?_)
        refine hg_iload3 d_M_taken_40 ?_
        refine hg_cSi d_M_taken_41 l_M_315 rfl (Nat.le_of_ble_eq_true rfl) (m_M_above) rfl ?_
        rintro _ _ ⟨rfl, rfl⟩
        refine hg_eq1 (y := 0) (by decide) ?_
        refine hg_istore3 d_M_taken_44 rfl ?_
        refine hg_goto (tgt := 31) d_M_taken_45 (by decide) ?_
        refine hg_iload3 d_M_taken_31 ?_
        refine hg_iload2 d_M_taken_32 ?_
        refine hg_icmp_eq (tgt := 48) d_M_taken_33 (by decide) (fun h_224 => absurd h_224 (by decide)) (fun h_224 => ?_)
        refine hg_iload3 d_M_taken_36 ?_
        refine hg_if_le (tgt := 48) d_M_taken_37 (by decide) (fun h_225 => ?_) (fun h_225 => absurd (by decide) h_225)
        refine hg_iload3 d_M_taken_48 ?_
        refine hg_iload2 d_M_taken_49 ?_
        refine hg_icmp_ne (tgt := 62) d_M_taken_50 (by decide) (fun h_226 => ?_) (fun h_226 => absurd (by decide) h_226)
        refine hg_bipush (v := (-12)) d_M_taken_62 (by decide) ?_
        refine hg_ireturn d_M_taken_64 rfl rfl ?_
        refine ⟨?_, I, Lg, rfl, hM0, fun _ _ => rfl, fun _ _ => rfl⟩
        unfold sp_taken; rw [iha, ihb]; simp only []; rw [ek, nI_clamp (by decide)]; rfl
      · refine hg_eq1 (y := 6) ek ?_
        show hg_WP l E _ Y_M_taken 0 0 30 [some (.ref (hg_ad E 21 0)), some (.int (nI h)), some (.int 5), none] [.int 6] (I, Lg, Rf, X) _
        refine hg_istore3 d_M_taken_30 rfl ?_
        refine hg_iload3 d_M_taken_31 ?_
        refine hg_iload2 d_M_taken_32 ?_
        refine hg_icmp_eq (tgt := 48) d_M_taken_33 (by decide) (fun h_227 => absurd h_227 (by decide)) (fun h_227 => ?_)
        refine hg_iload3 d_M_taken_36 ?_
        refine hg_if_le (tgt := 48) d_M_taken_37 (by decide) (fun h_228 => absurd h_228 (by decide)) (fun h_228 => ?_)
        refine hg_iload3 d_M_taken_40 ?_
        refine hg_cSi d_M_taken_41 l_M_315 rfl (Nat.le_of_ble_eq_true rfl) (m_M_above) rfl ?_
        rintro _ _ ⟨rfl, rfl⟩
        refine hg_eq1 (y := 3) (by decide) ?_
        refine hg_istore3 d_M_taken_44 rfl ?_
        refine hg_goto (tgt := 31) d_M_taken_45 (by decide) ?_
        refine hg_iload3 d_M_taken_31 ?_
        refine hg_iload2 d_M_taken_32 ?_
        refine hg_icmp_eq (tgt := 48) d_M_taken_33 (by decide) (fun h_229 => absurd h_229 (by decide)) (fun h_229 => ?_)
        refine hg_iload3 d_M_taken_36 ?_
        refine hg_if_le (tgt := 48) d_M_taken_37 (by decide) (fun h_230 => absurd h_230 (by decide)) (fun h_230 => ?_)
        refine hg_iload3 d_M_taken_40 ?_
        refine hg_cSi d_M_taken_41 l_M_315 rfl (Nat.le_of_ble_eq_true rfl) (m_M_above) rfl ?_
        rintro _ _ ⟨rfl, rfl⟩
        refine hg_eq1 (y := 0) (by decide) ?_
        refine hg_istore3 d_M_taken_44 rfl ?_
        refine hg_goto (tgt := 31) d_M_taken_45 (by decide) ?_
        refine hg_iload3 d_M_taken_31 ?_
        refine hg_iload2 d_M_taken_32 ?_
        refine hg_icmp_eq (tgt := 48) d_M_taken_33 (by decide) (fun h_231 => absurd h_231 (by decide)) (fun h_231 => ?_)
        refine hg_iload3 d_M_taken_36 ?_
        refine hg_if_le (tgt := 48) d_M_taken_37 (by decide) (fun h_232 => ?_) (fun h_232 => absurd (by decide) h_232)
        refine hg_iload3 d_M_taken_48 ?_
        refine hg_iload2 d_M_taken_49 ?_
        refine hg_icmp_ne (tgt := 62) d_M_taken_50 (by decide) (fun h_233 => ?_) (fun h_233 => absurd (by decide) h_233)
        refine hg_bipush (v := (-12)) d_M_taken_62 (by decide) ?_
        refine hg_ireturn d_M_taken_64 rfl rfl ?_
        refine ⟨?_, I, Lg, rfl, hM0, fun _ _ => rfl, fun _ _ => rfl⟩
        unfold sp_taken; rw [iha, ihb]; simp only []; rw [ek, nI_clamp (by decide)]; rfl
      · refine hg_eq1 (y := 6) ek ?_
        show hg_WP l E _ Y_M_taken 0 0 30 [some (.ref (hg_ad E 21 0)), some (.int (nI h)), some (.int 6), none] [.int 6] (I, Lg, Rf, X) _
        refine hg_istore3 d_M_taken_30 rfl ?_
        refine hg_iload3 d_M_taken_31 ?_
        refine hg_iload2 d_M_taken_32 ?_
        refine hg_icmp_eq (tgt := 48) d_M_taken_33 (by decide) (fun h_234 => ?_) (fun h_234 => absurd (by decide) h_234)
        refine hg_iload3 d_M_taken_48 ?_
        refine hg_iload2 d_M_taken_49 ?_
        refine hg_icmp_ne (tgt := 62) d_M_taken_50 (by decide) (fun h_235 => absurd h_235 (by decide)) (fun h_235 => ?_)
        refine hg_aload0 d_M_taken_53 ?_
        refine hg_getR d_M_taken_54 f_M_9 rfl rfl (hX.lt (n := 1) ⟨by decide, by decide⟩ rfl (by omega)) (hR.m (j := 1) (q := (22, 0)) rfl) ?_
        refine hg_iload1 d_M_taken_57 ?_
        refine hg_iald_n (j := h) d_M_taken_58 rfl rfl (hX.lt (n := 28) ⟨by decide, by decide⟩ rfl (by omega)) (hX.jn (n := 6) (by decide) rfl (by omega)) ?_
        refine hg_eq1 (y := hs_hv (gN G) h 0) (hM.2.2.2.2.2.2.2.1 h 0 (by assumption) (by decide)) ?_
        refine hg_goto (tgt := 64) d_M_taken_59 (by decide) ?_
        refine hg_ireturn d_M_taken_64 rfl rfl ?_
        refine ⟨?_, I, Lg, rfl, hM0, fun _ _ => rfl, fun _ _ => rfl⟩
        unfold sp_taken; rw [iha, ihb]; simp only []; rw [ek, nI_clamp (by decide)]; rfl
    · have ihb : hs_ix (hs_n (gN G)) x = none := hs_ix_n hhb
      refine hg_if_ne (tgt := 24) d_M_taken_18 (by decide) (fun h_236 => absurd h_236 (by decide)) (fun h_236 => ?_)
      refine hg_bipush (v := (-11)) d_M_taken_21 (by decide) ?_
      refine hg_ireturn d_M_taken_23 rfl rfl ?_
      refine ⟨?_, I, Lg, rfl, hM0, fun _ _ => rfl, fun _ _ => rfl⟩
      simp [sp_taken, iha, ihb]
  · have iha : hs_ix 7 y = none := hs_ix_n2 hha
    refine hg_if_ne (tgt := 13) d_M_taken_7 (by decide) (fun h_237 => absurd h_237 (by decide)) (fun h_237 => ?_)
    refine hg_bipush (v := (-2)) d_M_taken_10 (by decide) ?_
    refine hg_ireturn d_M_taken_12 rfl rfl ?_
    refine ⟨?_, I, Lg, rfl, hM0, fun _ _ => rfl, fun _ _ => rfl⟩
    simp [sp_taken, iha]

theorem m_M_looked_loop (hX : hg_XS (gT G) X) (hR : hg_SR (gT G) Rf) (hM0 : hs_MR G I Lg) (hG : hs_gok G) : ∀ (k i : Nat), i + k = (gL G 4).1 → hg_WP l E (d) Y_M_looked 0 0 2 [some (.ref (hg_ad E 21 0)), some (.int (nI i))] [] (I, Lg, Rf, X) (hg_i (fun v M' => v = sp_lk (gN G) (gL G 4) k i ∧ M' = (I, Lg, Rf, X))) := by
  have hM := hM0.1.1
  have hO := hG.1
  have hn6 := hO.1
  have hT := hM0.2.2.2.2.2.2.2
  have hw := hG.2.1
  have hL0 := hG.2.2.2.1 0 (by decide)
  have hL2 := hG.2.2.2.1 2 (by decide)
  have hL4 := hG.2.2.2.1 4 (by decide)
  replace hL0 : (gL G 0).1 ≤ 5 := hL0
  replace hL2 : (gL G 2).1 ≤ 10 := hL2
  replace hL4 : (gL G 4).1 ≤ 8 := hL4
  have hLb : hs_Lb (gN G) (gL G 0) (gL G 2) (gL G 4) := ⟨hn6, hL0, hL2, hL4⟩
  intro k
  induction k with
  | zero =>
    intro i hik
    obtain rfl : i = (gL G 4).1 := by omega
    refine hg_iload1 d_M_looked_2 ?_
    refine hg_aload0 d_M_looked_3 ?_
    refine hg_getI d_M_looked_4 f_M_297 rfl rfl (hX.lt (n := 1) ⟨by decide, by decide⟩ rfl (by omega)) ?_
    refine hg_eq1 (y := nI (gL G 4).1) (hM0.1.2.2.2.1) ?_
    refine hg_icmp_ge (tgt := 38) d_M_looked_7 (by decide) (fun h_1 => ?_) (fun h_1 => absurd (Int32.le_refl _) h_1)
    refine hg_bipush (v := (-5)) d_M_looked_38 (by decide) ?_
    refine hg_ireturn d_M_looked_40 rfl rfl ?_
    exact ⟨rfl, rfl⟩
  | succ k ih =>
    intro i hik
    obtain ⟨h, hh, eh⟩ := hG.2.2.2.2.1 2 (by decide) i (show i < (gL G 4).1 by omega)
    obtain ⟨l1, l2⟩ := hM0.1.2.2.2.2 i (by omega)
    refine hg_iload1 d_M_looked_2 ?_
    refine hg_aload0 d_M_looked_3 ?_
    refine hg_getI d_M_looked_4 f_M_297 rfl rfl (hX.lt (n := 1) ⟨by decide, by decide⟩ rfl (by omega)) ?_
    refine hg_eq1 (y := nI (gL G 4).1) (hM0.1.2.2.2.1) ?_
    refine hg_icmp_ge (tgt := 38) d_M_looked_7 (by decide) (fun h_2 => absurd h_2 (nI_ge (by omega) (by omega))) (fun h_2 => ?_)
    refine hg_aload0 d_M_looked_10 ?_
    refine hg_getR d_M_looked_11 f_M_24 rfl rfl (hX.lt (n := 1) ⟨by decide, by decide⟩ rfl (by omega)) (hR.m (j := 5) (q := (22, 4)) rfl) ?_
    refine hg_aload0 d_M_looked_14 ?_
    refine hg_getR d_M_looked_15 f_M_76 rfl rfl (hX.lt (n := 1) ⟨by decide, by decide⟩ rfl (by omega)) (hR.m (j := 37) (q := (22, 20)) rfl) ?_
    refine hg_iload1 d_M_looked_18 ?_
    refine hg_iald_n (j := i) d_M_looked_19 rfl rfl (hX.lt (n := 28) ⟨by decide, by decide⟩ rfl (by omega)) (hX.jn (n := 8) (by decide) rfl (by omega)) ?_
    refine hg_eq1 (y := nI h) (l1.trans eh) ?_
    refine hg_iald_n (j := h) d_M_looked_20 rfl rfl (hX.lt (n := 28) ⟨by decide, by decide⟩ rfl (by omega)) (hX.jn (n := 6) (by decide) rfl (by omega)) ?_
    refine hg_eq1 (y := hs_hv (gN G) h 4) (hM.2.2.2.2.2.2.2.1 h 4 (by assumption) (by decide)) ?_
    refine hg_aload0 d_M_looked_21 ?_
    refine hg_getR d_M_looked_22 f_M_79 rfl rfl (hX.lt (n := 1) ⟨by decide, by decide⟩ rfl (by omega)) (hR.m (j := 38) (q := (22, 21)) rfl) ?_
    refine hg_iload1 d_M_looked_25 ?_
    refine hg_iald_n (j := i) d_M_looked_26 rfl rfl (hX.lt (n := 28) ⟨by decide, by decide⟩ rfl (by omega)) (hX.jn (n := 8) (by decide) rfl (by omega)) ?_
    refine hg_eq1 (y := (gL G 4).2.2 i) (l2) ?_
    refine hg_icmp_eq (tgt := 32) d_M_looked_27 (by decide) (fun h1 => ?_) (fun h1 => ?_)
    · refine hg_iinc1 (v := nI (i + 1)) d_M_looked_32 rfl (nI_add _ _) ?_
      refine hg_goto (tgt := 2) d_M_looked_35 (by decide) ?_
      have e1 : ((gL G 4).2.1 i).toNatClampNeg = h := (congrArg Int32.toNatClampNeg eh).trans (nI_clamp (by omega))
      rw [show sp_lk (gN G) (gL G 4) (k + 1) i = sp_lk (gN G) (gL G 4) k (i + 1) from (by show (if hs_hv (gN G) ((gL G 4).2.1 i).toNatClampNeg 4 = (gL G 4).2.2 i then _ else _) = _; rw [e1, if_pos h1])]
      exact ih (i + 1) (by omega)
    · refine hg_iload1 d_M_looked_30 ?_
      refine hg_ireturn d_M_looked_31 rfl rfl ?_
      refine ⟨?_, rfl⟩
      have e1 : ((gL G 4).2.1 i).toNatClampNeg = h := (congrArg Int32.toNatClampNeg eh).trans (nI_clamp (by omega))
      show _ = if hs_hv (gN G) ((gL G 4).2.1 i).toNatClampNeg 4 = (gL G 4).2.2 i then _ else _
      rw [e1, if_neg h1]
theorem m_M_looked (hX : hg_XS (gT G) X) (hR : hg_SR (gT G) Rf) (hM0 : hs_MR G I Lg) (hG : hs_gok G) : hg_MC l E (d + 1) Y_M_looked 0 0 [.ref (hg_ad E 21 0)] (I, Lg, Rf, X) (hg_i (fun v M' => hs_MP v (sp_lk (gN G) (gL G 4) (gL G 4).1 0) G I Lg Rf X M')) := by
  have hM := hM0.1.1
  have hO := hG.1
  have hn6 := hO.1
  have hT := hM0.2.2.2.2.2.2.2
  have hw := hG.2.1
  refine hg_mc k_M_looked (Nat.le_of_ble_eq_true rfl) ?_
  show hg_WP l E _ Y_M_looked 0 0 0 [some (.ref (hg_ad E 21 0)), none] [] (I, Lg, Rf, X) _
  refine hg_iconst (v := 0) d_M_looked_0 (by decide) ?_
  refine hg_istore1 d_M_looked_1 rfl ?_
  refine hg_WP_imp (m_M_looked_loop hX hR hM0 hG (gL G 4).1 0 (by omega)) ?_
  rintro _ _ ⟨v, rfl, e, rfl⟩; exact ⟨v, rfl, e, I, Lg, rfl, hM0, fun _ _ => rfl, fun _ _ => rfl⟩

end M36
