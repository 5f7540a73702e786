/-! HangmanDinner: the image, acts, tapes -/
section M14
variable {l : Launch} {E : hg_E} {d : Nat}
variable {I : Nat → Nat → Nat → Int32} {Lg : Nat → Nat → Nat → Int64} {Rf : Nat → Nat → Nat → Option (Nat × Nat)} {X : Nat × (Nat → Nat) × (Nat → Nat → Nat)}
variable {G : hs_G}variable {I' : Nat → Nat → Nat → Int32} {Lg' : Nat → Nat → Nat → Int64} {Rf' : Nat → Nat → Nat → Option (Nat × Nat)}
theorem hs_CR.re {N' J' : hs_S} {L' : Nat → hs_L} {H' : Bool} (h : hs_CR G I Lg Rf X) (hR' : hg_SR (gT G) Rf') (e : ∀ k, k = 10 ∨ k = 11 ∨ k = 13 ∨ k = 14 ∨ k = 16 ∨ k = 19 ∨ k = 20 → I' k = I k) (h0 : I' 0 0 11 = I 0 0 11) (hN : hs_C 0 N' I' Rf') (hI : H' = true → hs_C 2 J' I' Rf') (hH : I' 0 0 9 = (if H' = true then 1 else 0)) (hL : ∀ r, r < 6 → hs_LR r (L' r) I') : hs_CR (N', J', L', H', gX G, gT G, gK G, gP G, gW G) I' Lg Rf' X := by
  obtain ⟨h1, h2, h3, h4, h5, h6, h7, h8, h9, h10, h11⟩ := h
  exact ⟨h1, hR', h0.trans h3, hN, hI, hH, hL, by rw [e 10 (by omega), e 11 (by omega)]; exact h8, h9.kp (congrFun (e 13 (by omega)) 0) (congrFun (e 14 (by omega)) 0), fun t ht => (h10 t ht).kp (congrFun (e 16 (by omega)) t) rfl, h11.kp (e 19 (by omega)) (e 20 (by omega))⟩
/-- three lists and one scene set -/
def hg_im (s : Nat) (I' I : Nat → Nat → Nat → Int32) : Prop := ∀ k i, ¬ (hg_tch s k i ∨ k = 7 ∨ k = 8 ∨ k = 9) → I' k i = I k i
theorem m_D_image (hR0 : hs_CR G I Lg Rf X) (hG : hs_gok G) : hg_MC l E (d + 3) Y_D_image 0 0 [.ref (hg_ad E 0 0)] (I, Lg, Rf, X) (hg_i (fun v M' => hs_CP v (so_image G).1 (so_image G).2 I Lg Rf M')) := by
  have hX := hR0.cX
  have hR := hR0.cR
  have hC := hR0.cN
  have hO := hG.1
  have hW := hR0.cW
  have hn6 := hO.1
  have hw := hG.2.1
  refine hg_mc k_D_image (Nat.le_of_ble_eq_true rfl) ?_
  show hg_WP l E _ Y_D_image 0 0 0 [some (.ref (hg_ad E 0 0))] [] (I, Lg, Rf, X) _
  refine hg_aload0 d_D_image_0 ?_
  refine hg_getR d_D_image_1 f_D_76 rfl rfl (hX.lt (n := 1) ⟨by decide, by decide⟩ rfl (by omega)) (hR.D (j := 2) (q := (1, 2)) rfl) ?_
  refine hg_aload0 d_D_image_4 ?_
  refine hg_getR d_D_image_5 f_D_69 rfl rfl (hX.lt (n := 1) ⟨by decide, by decide⟩ rfl (by omega)) (hR.D (j := 0) (q := (1, 0)) rfl) ?_
  refine hg_cVv d_D_image_8 l_D_191 rfl rfl (hX.lt (n := 3) ⟨by decide, by decide⟩ rfl (by omega)) rfl (Nat.le_of_ble_eq_true rfl) (m_S_become (s := 2) (s2 := 0) hX hR (by decide) (by decide) (by decide) hC hO) rfl ?_
  rintro _ ⟨I2, rfl, hC2, hf2⟩
  refine hg_aload0 d_D_image_11 ?_
  refine hg_getR d_D_image_12 f_D_20 rfl rfl (hX.lt (n := 1) ⟨by decide, by decide⟩ rfl (by omega)) (hR.D (j := 4) (q := (7, 1)) rfl) ?_
  refine hg_aload0 d_D_image_15 ?_
  refine hg_getR d_D_image_16 f_D_16 rfl rfl (hX.lt (n := 1) ⟨by decide, by decide⟩ rfl (by omega)) (hR.D (j := 3) (q := (7, 0)) rfl) ?_
  refine hg_cVv d_D_image_19 l_D_257 rfl rfl (hX.lt (n := 6) ⟨by decide, by decide⟩ rfl (by omega)) rfl (Nat.le_of_ble_eq_true rfl) (m_W_become (r := 1) (r2 := 0) (c := 5) hX hR.tn (by decide) (by decide) (by decide) rfl rfl rfl rfl ((hR0.cL (r := 0) (by decide)).fr1 hf2) (hG.2.2.2.1 0 (by decide)) (by decide)) rfl ?_
  rintro _ ⟨I3, rfl, hl3, hf3⟩
  refine hg_aload0 d_D_image_22 ?_
  refine hg_getR d_D_image_23 f_D_26 rfl rfl (hX.lt (n := 1) ⟨by decide, by decide⟩ rfl (by omega)) (hR.D (j := 6) (q := (7, 3)) rfl) ?_
  refine hg_aload0 d_D_image_26 ?_
  refine hg_getR d_D_image_27 f_D_23 rfl rfl (hX.lt (n := 1) ⟨by decide, by decide⟩ rfl (by omega)) (hR.D (j := 5) (q := (7, 2)) rfl) ?_
  refine hg_cVv d_D_image_30 l_D_257 rfl rfl (hX.lt (n := 6) ⟨by decide, by decide⟩ rfl (by omega)) rfl (Nat.le_of_ble_eq_true rfl) (m_W_become (r := 3) (r2 := 2) (c := 10) hX hR.tn (by decide) (by decide) (by decide) rfl rfl rfl rfl (((hR0.cL (r := 2) (by decide)).fr1 hf2).fl hf3 (by decide)) (hG.2.2.2.1 2 (by decide)) (by decide)) rfl ?_
  rintro _ ⟨I4, rfl, hl4, hf4⟩
  refine hg_aload0 d_D_image_33 ?_
  refine hg_getR d_D_image_34 f_D_32 rfl rfl (hX.lt (n := 1) ⟨by decide, by decide⟩ rfl (by omega)) (hR.D (j := 8) (q := (7, 5)) rfl) ?_
  refine hg_aload0 d_D_image_37 ?_
  refine hg_getR d_D_image_38 f_D_29 rfl rfl (hX.lt (n := 1) ⟨by decide, by decide⟩ rfl (by omega)) (hR.D (j := 7) (q := (7, 4)) rfl) ?_
  refine hg_cVv d_D_image_41 l_D_257 rfl rfl (hX.lt (n := 6) ⟨by decide, by decide⟩ rfl (by omega)) rfl (Nat.le_of_ble_eq_true rfl) (m_W_become (r := 5) (r2 := 4) (c := 8) hX hR.tn (by decide) (by decide) (by decide) rfl rfl rfl rfl ((((hR0.cL (r := 4) (by decide)).fr1 hf2).fl hf3 (by decide)).fl hf4 (by decide)) (hG.2.2.2.1 4 (by decide)) (by decide)) rfl ?_
  rintro _ ⟨I5, rfl, hl5, hf5⟩
  refine hg_aload0 d_D_image_44 ?_
  refine hg_iconst (v := 1) d_D_image_45 (by decide) ?_
  refine hg_putI d_D_image_46 f_D_260 rfl rfl (Or.inl rfl) rfl rfl (hX.lt (n := 1) ⟨by decide, by decide⟩ rfl (by omega)) ?_
  refine hg_aload0 d_D_image_49 ?_
  refine hg_getR d_D_image_50 f_D_69 rfl rfl (hX.lt (n := 1) ⟨by decide, by decide⟩ rfl (by omega)) (hR.D (j := 0) (q := (1, 0)) rfl) ?_
  refine hg_getI d_D_image_53 f_D_185 rfl rfl (hX.lt (n := 3) ⟨by decide, by decide⟩ rfl (by omega)) ?_
  refine hg_eq1 (y := I5 1 0 2) (by simp [hg_u3]) ?_
  refine hg_eq1 (y := nI (hs_n (gN G))) (by rw [hf5 1 0 (by omega), hf4 1 0 (by omega), hf3 1 0 (by omega), hf2 1 0 (by unfold hg_tch; omega)]; exact hC.1) ?_
  have hfi : ∀ k i, ¬ (hg_tch 2 k i ∨ k = 7 ∨ k = 8 ∨ k = 9) → I5 k i = I k i := fun k i hn => by rw [hf5 k i (fun z => hn (Or.inr z.1)), hf4 k i (fun z => hn (Or.inr z.1)), hf3 k i (fun z => hn (Or.inr z.1)), hf2 k i (fun z => hn (Or.inl z))]
  have hu : ∀ k, k ≠ 0 → (hg_u3 I5 0 0 9 1) k = I5 k := fun k hk => by funext a b; exact hg_u3k (fun z => hk z.1)
  have hfj : ∀ k i, k ≠ 0 → ¬ (hg_tch 2 k i ∨ k = 7 ∨ k = 8 ∨ k = 9) → (hg_u3 I5 0 0 9 1) k i = I k i := fun k i h0 hn => by rw [hu k h0]; exact hfi k i hn
  have hq3 := (hl3.fl hf4 (by decide)).fl hf5 (by decide)
  have hq4 := hl4.fl hf5 (by decide)
  have ho : ∀ r, r = 0 ∨ r = 2 ∨ r = 4 → hs_LR r (gL G r) I5 := fun r hr => ((((hR0.cL (by omega)).fr1 hf2).fl hf3 (by omega)).fl hf4 (by omega)).fl hf5 (by omega)
  have hLL : ∀ r, r < 6 → hs_LR r (gL G (r / 2 * 2)) (hg_u3 I5 0 0 9 1) := fun r hr => by
    have h6 : r = 0 ∨ r = 1 ∨ r = 2 ∨ r = 3 ∨ r = 4 ∨ r = 5 := by omega
    refine hs_LR.kp (I := I5) ?_ (congrFun (hu 7 (by decide)) r) (congrFun (hu 8 (by decide)) r) (congrFun (hu 9 (by decide)) r)
    rcases h6 with rfl | rfl | rfl | rfl | rfl | rfl
    · exact ho 0 (by omega)
    · exact hq3
    · exact ho 2 (by omega)
    · exact hq4
    · exact ho 4 (by omega)
    · exact hl5
  have hCn : hs_C 0 (gN G) (hg_u3 I5 0 0 9 1) (hg_u3 Rf 1 2 7 (some (19, hs_tn (gN G)))) := hC.kp (hfj _ _ (by decide) (by unfold hg_tch; omega)) (hfj _ _ (by decide) (by unfold hg_tch; omega)) (fun k hk => hfj _ _ (by decide) (by unfold hg_tch; omega)) (fun k hk => hfj _ _ (by decide) (by unfold hg_tch; omega)) (by simp [hg_u3])
  have hg5 : ∀ k i, k ≠ 0 → k ≠ 7 → k ≠ 8 → k ≠ 9 → (hg_u3 I5 0 0 9 1) k i = I2 k i := fun k i h0 a b c => by rw [hu k h0, hf5 k i (by omega), hf4 k i (by omega), hf3 k i (by omega)]
  have hCi : hs_C 2 (gN G) (hg_u3 I5 0 0 9 1) (hg_u3 Rf 1 2 7 (some (19, hs_tn (gN G)))) := hC2.kp (hg5 _ _ (by decide) (by decide) (by decide) (by decide)) (hg5 _ _ (by decide) (by decide) (by decide) (by decide)) (fun k hk => hg5 _ _ (by decide) (by decide) (by decide) (by decide)) (fun k hk => hg5 _ _ (by decide) (by decide) (by decide) (by decide)) rfl
  refine hg_ireturn d_D_image_56 rfl rfl ?_
  have hz : so_image G = (nI (hs_n (gN G)), gsM G) := by simp [so_image]
  rw [hz]
  exact ⟨rfl, _, Lg, (hg_u3 Rf 1 2 7 (some (19, hs_tn (gN G)))), X, rfl, hR0.re (hR0.cR.tn) (fun k hk => funext fun i => hfj k i (by omega) (by unfold hg_tch; omega)) ((show hg_u3 I5 0 0 9 1 0 0 11 = I5 0 0 11 from by simp [hg_u3]).trans (congrFun (hfi 0 0 (by unfold hg_tch; omega)) 11)) hCn (fun _ => hCi) (by simp [hg_u3]) hLL, (fun k hk => ⟨funext fun i => hfj k i (by omega) (by unfold hg_tch; omega), rfl, funext fun i => funext fun j => hg_u3k (by omega)⟩)⟩

theorem m_D_undo (hR0 : hs_CR G I Lg Rf X) (hG : hs_gok G) : hg_MC l E (d + 3) Y_D_undo 0 0 [.ref (hg_ad E 0 0)] (I, Lg, Rf, X) (hg_i (fun v M' => hs_CP v (so_undo G).1 (so_undo G).2 I Lg Rf M')) := by
  have hX := hR0.cX
  have hR := hR0.cR
  have hC := hR0.cN
  have hO := hG.1
  have hW := hR0.cW
  have hn6 := hO.1
  have hw := hG.2.1
  refine hg_mc k_D_undo (Nat.le_of_ble_eq_true rfl) ?_
  show hg_WP l E _ Y_D_undo 0 0 0 [some (.ref (hg_ad E 0 0))] [] (I, Lg, Rf, X) _
  refine hg_aload0 d_D_undo_0 ?_
  refine hg_getI d_D_undo_1 f_D_260 rfl rfl (hX.lt (n := 1) ⟨by decide, by decide⟩ rfl (by omega)) ?_
  by_cases hH : gH G = true
  · refine hg_eq1 (y := 1) (hR0.cH.trans (if_pos hH)) ?_
    refine hg_if_ne (tgt := 10) d_D_undo_4 (by decide) (fun h_1 => ?_) (fun h_1 => absurd (by decide) h_1)
    refine hg_aload0 d_D_undo_10 ?_
    refine hg_getR d_D_undo_11 f_D_69 rfl rfl (hX.lt (n := 1) ⟨by decide, by decide⟩ rfl (by omega)) (hR.D (j := 0) (q := (1, 0)) rfl) ?_
    refine hg_aload0 d_D_undo_14 ?_
    refine hg_getR d_D_undo_15 f_D_76 rfl rfl (hX.lt (n := 1) ⟨by decide, by decide⟩ rfl (by omega)) (hR.D (j := 2) (q := (1, 2)) rfl) ?_
    refine hg_cVv d_D_undo_18 l_D_191 rfl rfl (hX.lt (n := 3) ⟨by decide, by decide⟩ rfl (by omega)) rfl (Nat.le_of_ble_eq_true rfl) (m_S_become (s := 0) (s2 := 2) hX hR (by decide) (by decide) (by decide) (hR0.cI hH) (hG.2.2.1 hH).1) rfl ?_
    rintro _ ⟨I2, rfl, hC2, hf2⟩
    refine hg_aload0 d_D_undo_21 ?_
    refine hg_getR d_D_undo_22 f_D_16 rfl rfl (hX.lt (n := 1) ⟨by decide, by decide⟩ rfl (by omega)) (hR.D (j := 3) (q := (7, 0)) rfl) ?_
    refine hg_aload0 d_D_undo_25 ?_
    refine hg_getR d_D_undo_26 f_D_20 rfl rfl (hX.lt (n := 1) ⟨by decide, by decide⟩ rfl (by omega)) (hR.D (j := 4) (q := (7, 1)) rfl) ?_
    refine hg_cVv d_D_undo_29 l_D_257 rfl rfl (hX.lt (n := 6) ⟨by decide, by decide⟩ rfl (by omega)) rfl (Nat.le_of_ble_eq_true rfl) (m_W_become (r := 0) (r2 := 1) (c := 5) hX hR.tn (by decide) (by decide) (by decide) rfl rfl rfl rfl ((hR0.cL (r := 1) (by decide)).fr1 hf2) (hG.2.2.2.1 1 (by decide)) (by decide)) rfl ?_
    rintro _ ⟨I3, rfl, hl3, hf3⟩
    refine hg_aload0 d_D_undo_32 ?_
    refine hg_getR d_D_undo_33 f_D_23 rfl rfl (hX.lt (n := 1) ⟨by decide, by decide⟩ rfl (by omega)) (hR.D (j := 5) (q := (7, 2)) rfl) ?_
    refine hg_aload0 d_D_undo_36 ?_
    refine hg_getR d_D_undo_37 f_D_26 rfl rfl (hX.lt (n := 1) ⟨by decide, by decide⟩ rfl (by omega)) (hR.D (j := 6) (q := (7, 3)) rfl) ?_
    refine hg_cVv d_D_undo_40 l_D_257 rfl rfl (hX.lt (n := 6) ⟨by decide, by decide⟩ rfl (by omega)) rfl (Nat.le_of_ble_eq_true rfl) (m_W_become (r := 2) (r2 := 3) (c := 10) hX hR.tn (by decide) (by decide) (by decide) rfl rfl rfl rfl (((hR0.cL (r := 3) (by decide)).fr1 hf2).fl hf3 (by decide)) (hG.2.2.2.1 3 (by decide)) (by decide)) rfl ?_
    rintro _ ⟨I4, rfl, hl4, hf4⟩
    refine hg_aload0 d_D_undo_43 ?_
    refine hg_getR d_D_undo_44 f_D_29 rfl rfl (hX.lt (n := 1) ⟨by decide, by decide⟩ rfl (by omega)) (hR.D (j := 7) (q := (7, 4)) rfl) ?_
    refine hg_aload0 d_D_undo_47 ?_
    refine hg_getR d_D_undo_48 f_D_32 rfl rfl (hX.lt (n := 1) ⟨by decide, by decide⟩ rfl (by omega)) (hR.D (j := 8) (q := (7, 5)) rfl) ?_
    refine hg_cVv d_D_undo_51 l_D_257 rfl rfl (hX.lt (n := 6) ⟨by decide, by decide⟩ rfl (by omega)) rfl (Nat.le_of_ble_eq_true rfl) (m_W_become (r := 4) (r2 := 5) (c := 8) hX hR.tn (by decide) (by decide) (by decide) rfl rfl rfl rfl ((((hR0.cL (r := 5) (by decide)).fr1 hf2).fl hf3 (by decide)).fl hf4 (by decide)) (hG.2.2.2.1 5 (by decide)) (by decide)) rfl ?_
    rintro _ ⟨I5, rfl, hl5, hf5⟩
    refine hg_aload0 d_D_undo_54 ?_
    refine hg_getR d_D_undo_55 f_D_69 rfl rfl (hX.lt (n := 1) ⟨by decide, by decide⟩ rfl (by omega)) (hR.D (j := 0) (q := (1, 0)) rfl) ?_
    refine hg_getI d_D_undo_58 f_D_185 rfl rfl (hX.lt (n := 3) ⟨by decide, by decide⟩ rfl (by omega)) ?_
    refine hg_eq1 (y := nI (hs_n (gI G))) (by rw [hf5 1 0 (by omega), hf4 1 0 (by omega), hf3 1 0 (by omega)]; exact hC2.1) ?_
    have hfj : ∀ k i, ¬ (hg_tch 0 k i ∨ k = 7 ∨ k = 8 ∨ k = 9) → I5 k i = I k i := fun k i hn => by rw [hf5 k i (fun z => hn (Or.inr z.1)), hf4 k i (fun z => hn (Or.inr z.1)), hf3 k i (fun z => hn (Or.inr z.1)), hf2 k i (fun z => hn (Or.inl z))]
    have hq3 := (hl3.fl hf4 (by decide)).fl hf5 (by decide)
    have hq4 := hl4.fl hf5 (by decide)
    have ho : ∀ r, r = 1 ∨ r = 3 ∨ r = 5 → hs_LR r (gL G r) I5 := fun r hr => ((((hR0.cL (by omega)).fr1 hf2).fl hf3 (by omega)).fl hf4 (by omega)).fl hf5 (by omega)
    have hLL : ∀ r, r < 6 → hs_LR r (gL G (r / 2 * 2 + 1)) I5 := fun r hr => by
      have h6 : r = 0 ∨ r = 1 ∨ r = 2 ∨ r = 3 ∨ r = 4 ∨ r = 5 := by omega
      rcases h6 with rfl | rfl | rfl | rfl | rfl | rfl
      · exact hq3
      · exact ho 1 (by omega)
      · exact hq4
      · exact ho 3 (by omega)
      · exact hl5
      · exact ho 5 (by omega)
    have hI0 := hR0.cI hH
    have hI6 := (hG.2.2.1 hH).1.1
    have hCn : hs_C 2 (gI G) I5 (hg_u3 Rf 1 0 7 (some (19, hs_tn (gI G)))) := hI0.kp (hfj _ _ (by unfold hg_tch; omega)) (hfj _ _ (by unfold hg_tch; omega)) (fun k hk => hfj _ _ (by unfold hg_tch; omega)) (fun k hk => hfj _ _ (by unfold hg_tch; omega)) (by simp [hg_u3])
    have hg5 : ∀ k i, k ≠ 7 → k ≠ 8 → k ≠ 9 → I5 k i = I2 k i := fun k i a b c => by rw [hf5 k i (by omega), hf4 k i (by omega), hf3 k i (by omega)]
    have hCi : hs_C 0 (gI G) I5 (hg_u3 Rf 1 0 7 (some (19, hs_tn (gI G)))) := hC2.kp (hg5 _ _ (by decide) (by decide) (by decide)) (hg5 _ _ (by decide) (by decide) (by decide)) (fun k hk => hg5 _ _ (by decide) (by decide) (by decide)) (fun k hk => hg5 _ _ (by decide) (by decide) (by decide)) rfl
    refine hg_ireturn d_D_undo_61 rfl rfl ?_
    have hz : so_undo G = (nI (hs_n (gI G)), gsU G) := by simp [so_undo, hH]
    rw [hz]
    exact ⟨rfl, _, Lg, (hg_u3 Rf 1 0 7 (some (19, hs_tn (gI G)))), X, rfl, hR0.re (hR0.cR.tn) (fun k hk => funext fun i => hfj k i (by unfold hg_tch; omega)) (congrFun (hfj 0 0 (by unfold hg_tch; omega)) 11) hCi (fun _ => hCn) ((congrFun (hfj 0 0 (by unfold hg_tch; omega)) 9).trans hR0.cH) hLL, (fun k hk => ⟨funext fun i => hfj k i (by unfold hg_tch; omega), rfl, funext fun i => funext fun j => hg_u3k (by omega)⟩)⟩
  · refine hg_eq1 (y := 0) (hR0.cH.trans (if_neg hH)) ?_
    refine hg_if_ne (tgt := 10) d_D_undo_4 (by decide) (fun h_2 => absurd h_2 (by decide)) (fun h_2 => ?_)
    refine hg_bipush (v := (-3)) d_D_undo_7 (by decide) ?_
    refine hg_ireturn d_D_undo_9 rfl rfl ?_
    have hz : so_undo G = (-3, G) := by simp [so_undo, hH]
    rw [hz]
    exact ⟨rfl, I, Lg, Rf, X, rfl, hR0, hg_kp.rf⟩

theorem m_T_forget {T : Nat} (hX : hg_XS T X) : hg_MC l E (d + 1) Y_T_forget 0 0 [.ref (hg_ad E 13 0)] (I, Lg, Rf, X) (hg_v (fun M' => M' = (hg_u3 I 13 0 1 0, Lg, Rf, X))) := by
  refine hg_mc k_T_forget (Nat.le_of_ble_eq_true rfl) ?_
  show hg_WP l E _ Y_T_forget 0 0 0 [some (.ref (hg_ad E 13 0))] [] (I, Lg, Rf, X) _
  refine hg_aload0 d_T_forget_0 ?_
  refine hg_iconst (v := 0) d_T_forget_1 (by decide) ?_
  refine hg_putI d_T_forget_2 f_T_16 rfl rfl (Or.inl rfl) rfl rfl (hX.lt (n := 1) ⟨by decide, by decide⟩ rfl (by omega)) ?_
  refine hg_return d_T_forget_5 rfl ?_
  exact rfl

theorem m_T_start {T h K a : Nat} {v y : Int32} {st : tk_S} (hX : hg_XS T X) (hR : hg_SR T Rf) (hh : h < 6) (hK6 : K ≤ 6) (ha : a < 3) (hk : I 3 (6 * 0 + h) 0 = nI K) (hv : I 3 (6 * 0 + h) 1 = v) (hC0 : tk_C st I) (hs0 : st.1 = 0) : hg_MC l E (d + 15) Y_T_start 0 0 [.ref (hg_ad E 13 0), .int (nI h), .ref (hg_ad E 3 (6 * 0 + h)), .int (nI a), .int y] (I, Lg, Rf, X) (hg_i (fun r M' => ∃ I' : Nat → Nat → Nat → Int32, r = (tk_run h v K a y st).1 ∧ M' = (I', Lg, Rf, X) ∧ tk_C (tk_run h v K a y st).2 I' ∧ ∀ k, k ≠ 13 → k ≠ 14 → I' k = I k)) := by
  refine hg_mc k_T_start (Nat.le_of_ble_eq_true rfl) ?_
  show hg_WP l E _ Y_T_start 0 0 0 [some (.ref (hg_ad E 13 0)), some (.int (nI h)), some (.ref (hg_ad E 3 (6 * 0 + h))), some (.int (nI a)), some (.int y)] [] (I, Lg, Rf, X) _
  have h3 : a = 0 ∨ a = 1 ∨ a = 2 := by omega
  rcases h3 with rfl | rfl | rfl
  · show hg_WP l E _ Y_T_start 0 0 0 [some (.ref (hg_ad E 13 0)), some (.int (nI h)), some (.ref (hg_ad E 3 (6 * 0 + h))), some (.int 0), some (.int y)] [] (I, Lg, Rf, X) _
    refine hg_aload0 d_T_start_0 ?_
    refine hg_iload1 d_T_start_1 ?_
    refine hg_putI d_T_start_2 f_T_26 rfl rfl (Or.inl rfl) rfl rfl (hX.lt (n := 1) ⟨by decide, by decide⟩ rfl (by omega)) ?_
    refine hg_aload0 d_T_start_5 ?_
    refine hg_aload2 d_T_start_6 ?_
    refine hg_getI d_T_start_7 f_T_29 rfl rfl (hX.lt (n := 18) ⟨by decide, by decide⟩ rfl (by omega)) ?_
    refine hg_eq1 (y := I 3 (6 * 0 + h) 0) (by simp [hg_u3]) ?_
    refine hg_eq1 (y := nI K) (hk) ?_
    refine hg_putI d_T_start_10 f_T_34 rfl rfl (Or.inl rfl) rfl rfl (hX.lt (n := 1) ⟨by decide, by decide⟩ rfl (by omega)) ?_
    refine hg_aload0 d_T_start_13 ?_
    refine hg_aload2 d_T_start_14 ?_
    refine hg_getI d_T_start_15 f_T_35 rfl rfl (hX.lt (n := 18) ⟨by decide, by decide⟩ rfl (by omega)) ?_
    refine hg_eq1 (y := I 3 (6 * 0 + h) 1) (by simp [hg_u3]) ?_
    refine hg_eq1 (y := v) (hv) ?_
    refine hg_putI d_T_start_18 f_T_38 rfl rfl (Or.inl rfl) rfl rfl (hX.lt (n := 1) ⟨by decide, by decide⟩ rfl (by omega)) ?_
    refine hg_aload0 d_T_start_21 ?_
    refine hg_iload3 d_T_start_22 ?_
    refine hg_aload0 d_T_start_23 ?_
    refine hg_getI d_T_start_24 f_T_34 rfl rfl (hX.lt (n := 1) ⟨by decide, by decide⟩ rfl (by omega)) ?_
    refine hg_eq1 (y := nI K) (by simp [hg_u3]) ?_
    refine hg_iload4 d_T_start_27 ?_
    refine hg_iconst (v := 0) d_T_start_29 (by decide) ?_
    have hfu : ∀ k, k ≠ 13 → (hg_u3 (hg_u3 (hg_u3 I 13 0 2 (nI h)) 13 0 3 (nI K)) 13 0 4 v) k = I k := fun k hk => by funext a b; simp [hg_u3, hk]
    have hCk : tk_C st (hg_u3 (hg_u3 (hg_u3 I 13 0 2 (nI h)) 13 0 3 (nI K)) 13 0 4 v) := ⟨by simpa [hg_u3] using hC0.1, fun j hj => by simpa [hg_u3] using hC0.2 j hj⟩
    have hKk : tk_K h v K (hg_u3 (hg_u3 (hg_u3 I 13 0 2 (nI h)) 13 0 3 (nI K)) 13 0 4 v) := ⟨by simp [hg_u3], by simp [hg_u3], by simp [hg_u3]⟩
    refine hg_cVi d_T_start_30 l_T_39 rfl rfl (hX.lt (n := 1) ⟨by decide, by decide⟩ rfl (by omega)) rfl (Nat.le_of_ble_eq_true rfl) (m_find_A (k := K) (p := h) (K := K) (dl := 0) (v := v) (st := st) hX hR hCk hKk hK6 hK6 (by decide) (by rw [hs0]; decide)) rfl ?_
    rintro _ _ ⟨I2, rfl, rfl, hC2, hf2⟩
    refine hg_ireturn d_T_start_33 rfl rfl ?_
    exact ⟨I2, rfl, rfl, hC2, fun k h1 h2 => (hf2.1 k h1 h2).trans (hfu k h1)⟩
  · show hg_WP l E _ Y_T_start 0 0 0 [some (.ref (hg_ad E 13 0)), some (.int (nI h)), some (.ref (hg_ad E 3 (6 * 0 + h))), some (.int 1), some (.int y)] [] (I, Lg, Rf, X) _
    refine hg_aload0 d_T_start_0 ?_
    refine hg_iload1 d_T_start_1 ?_
    refine hg_putI d_T_start_2 f_T_26 rfl rfl (Or.inl rfl) rfl rfl (hX.lt (n := 1) ⟨by decide, by decide⟩ rfl (by omega)) ?_
    refine hg_aload0 d_T_start_5 ?_
    refine hg_aload2 d_T_start_6 ?_
    refine hg_getI d_T_start_7 f_T_29 rfl rfl (hX.lt (n := 18) ⟨by decide, by decide⟩ rfl (by omega)) ?_
    refine hg_eq1 (y := I 3 (6 * 0 + h) 0) (by simp [hg_u3]) ?_
    refine hg_eq1 (y := nI K) (hk) ?_
    refine hg_putI d_T_start_10 f_T_34 rfl rfl (Or.inl rfl) rfl rfl (hX.lt (n := 1) ⟨by decide, by decide⟩ rfl (by omega)) ?_
    refine hg_aload0 d_T_start_13 ?_
    refine hg_aload2 d_T_start_14 ?_
    refine hg_getI d_T_start_15 f_T_35 rfl rfl (hX.lt (n := 18) ⟨by decide, by decide⟩ rfl (by omega)) ?_
    refine hg_eq1 (y := I 3 (6 * 0 + h) 1) (by simp [hg_u3]) ?_
    refine hg_eq1 (y := v) (hv) ?_
    refine hg_putI d_T_start_18 f_T_38 rfl rfl (Or.inl rfl) rfl rfl (hX.lt (n := 1) ⟨by decide, by decide⟩ rfl (by omega)) ?_
    refine hg_aload0 d_T_start_21 ?_
    refine hg_iload3 d_T_start_22 ?_
    refine hg_aload0 d_T_start_23 ?_
    refine hg_getI d_T_start_24 f_T_34 rfl rfl (hX.lt (n := 1) ⟨by decide, by decide⟩ rfl (by omega)) ?_
    refine hg_eq1 (y := nI K) (by simp [hg_u3]) ?_
    refine hg_iload4 d_T_start_27 ?_
    refine hg_iconst (v := 0) d_T_start_29 (by decide) ?_
    have hfu : ∀ k, k ≠ 13 → (hg_u3 (hg_u3 (hg_u3 I 13 0 2 (nI h)) 13 0 3 (nI K)) 13 0 4 v) k = I k := fun k hk => by funext a b; simp [hg_u3, hk]
    have hCk : tk_C st (hg_u3 (hg_u3 (hg_u3 I 13 0 2 (nI h)) 13 0 3 (nI K)) 13 0 4 v) := ⟨by simpa [hg_u3] using hC0.1, fun j hj => by simpa [hg_u3] using hC0.2 j hj⟩
    have hKk : tk_K h v K (hg_u3 (hg_u3 (hg_u3 I 13 0 2 (nI h)) 13 0 3 (nI K)) 13 0 4 v) := ⟨by simp [hg_u3], by simp [hg_u3], by simp [hg_u3]⟩
    refine hg_cVi d_T_start_30 l_T_39 rfl rfl (hX.lt (n := 1) ⟨by decide, by decide⟩ rfl (by omega)) rfl (Nat.le_of_ble_eq_true rfl) (m_find_T (k := K) (p := h) (K := K) (dl := 0) (v := v) (st := st) hX hR hCk hKk hK6 hK6 (by decide) (by rw [hs0]; decide)) rfl ?_
    rintro _ _ ⟨I2, rfl, rfl, hC2, hf2⟩
    refine hg_ireturn d_T_start_33 rfl rfl ?_
    exact ⟨I2, rfl, rfl, hC2, fun k h1 h2 => (hf2.1 k h1 h2).trans (hfu k h1)⟩
  · show hg_WP l E _ Y_T_start 0 0 0 [some (.ref (hg_ad E 13 0)), some (.int (nI h)), some (.ref (hg_ad E 3 (6 * 0 + h))), some (.int 2), some (.int y)] [] (I, Lg, Rf, X) _
    refine hg_aload0 d_T_start_0 ?_
    refine hg_iload1 d_T_start_1 ?_
    refine hg_putI d_T_start_2 f_T_26 rfl rfl (Or.inl rfl) rfl rfl (hX.lt (n := 1) ⟨by decide, by decide⟩ rfl (by omega)) ?_
    refine hg_aload0 d_T_start_5 ?_
    refine hg_aload2 d_T_start_6 ?_
    refine hg_getI d_T_start_7 f_T_29 rfl rfl (hX.lt (n := 18) ⟨by decide, by decide⟩ rfl (by omega)) ?_
    refine hg_eq1 (y := I 3 (6 * 0 + h) 0) (by simp [hg_u3]) ?_
    refine hg_eq1 (y := nI K) (hk) ?_
    refine hg_putI d_T_start_10 f_T_34 rfl rfl (Or.inl rfl) rfl rfl (hX.lt (n := 1) ⟨by decide, by decide⟩ rfl (by omega)) ?_
    refine hg_aload0 d_T_start_13 ?_
    refine hg_aload2 d_T_start_14 ?_
    refine hg_getI d_T_start_15 f_T_35 rfl rfl (hX.lt (n := 18) ⟨by decide, by decide⟩ rfl (by omega)) ?_
    refine hg_eq1 (y := I 3 (6 * 0 + h) 1) (by simp [hg_u3]) ?_
    refine hg_eq1 (y := v) (hv) ?_
    refine hg_putI d_T_start_18 f_T_38 rfl rfl (Or.inl rfl) rfl rfl (hX.lt (n := 1) ⟨by decide, by decide⟩ rfl (by omega)) ?_
    refine hg_aload0 d_T_start_21 ?_
    refine hg_iload3 d_T_start_22 ?_
    refine hg_aload0 d_T_start_23 ?_
    refine hg_getI d_T_start_24 f_T_34 rfl rfl (hX.lt (n := 1) ⟨by decide, by decide⟩ rfl (by omega)) ?_
    refine hg_eq1 (y := nI K) (by simp [hg_u3]) ?_
    refine hg_iload4 d_T_start_27 ?_
    refine hg_iconst (v := 0) d_T_start_29 (by decide) ?_
    have hfu : ∀ k, k ≠ 13 → (hg_u3 (hg_u3 (hg_u3 I 13 0 2 (nI h)) 13 0 3 (nI K)) 13 0 4 v) k = I k := fun k hk => by funext a b; simp [hg_u3, hk]
    have hCk : tk_C st (hg_u3 (hg_u3 (hg_u3 I 13 0 2 (nI h)) 13 0 3 (nI K)) 13 0 4 v) := ⟨by simpa [hg_u3] using hC0.1, fun j hj => by simpa [hg_u3] using hC0.2 j hj⟩
    have hKk : tk_K h v K (hg_u3 (hg_u3 (hg_u3 I 13 0 2 (nI h)) 13 0 3 (nI K)) 13 0 4 v) := ⟨by simp [hg_u3], by simp [hg_u3], by simp [hg_u3]⟩
    refine hg_cVi d_T_start_30 l_T_39 rfl rfl (hX.lt (n := 1) ⟨by decide, by decide⟩ rfl (by omega)) rfl (Nat.le_of_ble_eq_true rfl) (m_find_L (k := K) (p := h) (K := K) (dl := 0) (v := v) (st := st) hX hR hCk hKk hK6 hK6 (by decide) (by rw [hs0]; decide)) rfl ?_
    rintro _ _ ⟨I2, rfl, rfl, hC2, hf2⟩
    refine hg_ireturn d_T_start_33 rfl rfl ?_
    exact ⟨I2, rfl, rfl, hC2, fun k h1 h2 => (hf2.1 k h1 h2).trans (hfu k h1)⟩

theorem m_D_act {x z y : Int32} (hR0 : hs_CR G I Lg Rf X) (hG : hs_gok G) : hg_MC l E (d + 16) Y_D_act 0 0 [.ref (hg_ad E 0 0), .int x, .int z, .int y] (I, Lg, Rf, X) (hg_i (fun v M' => hs_CP v (so_act G x z y).1 (so_act G x z y).2 I Lg Rf M')) := by
  have hX := hR0.cX
  have hR := hR0.cR
  have hC := hR0.cN
  have hO := hG.1
  have hW := hR0.cW
  have hn6 := hO.1
  have hw := hG.2.1
  refine hg_mc k_D_act (Nat.le_of_ble_eq_true rfl) ?_
  show hg_WP l E _ Y_D_act 0 0 0 [some (.ref (hg_ad E 0 0)), some (.int x), some (.int z), some (.int y), none] [] (I, Lg, Rf, X) _
  refine hg_aload0 d_D_act_0 ?_
  refine hg_getR d_D_act_1 f_D_45 rfl rfl (hX.lt (n := 1) ⟨by decide, by decide⟩ rfl (by omega)) (hR.D (j := 12) (q := (13, 0)) rfl) ?_
  refine hg_cVv d_D_act_4 l_D_263 rfl rfl (hX.lt (n := 1) ⟨by decide, by decide⟩ rfl (by omega)) rfl (Nat.le_of_ble_eq_true rfl) (m_T_forget hX) rfl ?_
  rintro _ rfl
  have hfu : ∀ k, k ≠ 13 → hg_u3 I 13 0 1 0 k = I k := fun k hk => by funext a b; simp [hg_u3, hk]
  have hC0 : hs_C 0 (gN G) (hg_u3 I 13 0 1 0) Rf := hC.kp (congrFun (hfu _ (by decide)) _) (congrFun (hfu _ (by decide)) _) (fun k hk => congrFun (hfu _ (by decide)) _) (fun k hk => congrFun (hfu _ (by decide)) _) rfl
  have hK0 : tk_C (0, (gK G).2) (hg_u3 I 13 0 1 0) := ⟨by simp [hg_u3, nI], fun j hj => by simpa [hg_u3] using hR0.cK.2 j hj⟩
  refine hg_aload0 d_D_act_7 ?_
  refine hg_getR d_D_act_8 f_D_69 rfl rfl (hX.lt (n := 1) ⟨by decide, by decide⟩ rfl (by omega)) (hR.D (j := 0) (q := (1, 0)) rfl) ?_
  refine hg_iload1 d_D_act_11 ?_
  refine hg_cVr d_D_act_12 l_D_88 rfl rfl (hX.lt (n := 3) ⟨by decide, by decide⟩ rfl (by omega)) rfl (Nat.le_of_ble_eq_true rfl) (m_S_at hX hR (by decide) hC0.1 hn6) rfl ?_
  rintro _ _ ⟨⟨hat, rfl⟩ | ⟨h, hh, rfl, rfl⟩, rfl⟩
  · have iat : hs_ix (hs_n (gN G)) x = none := hs_ix_n hat
    show hg_WP l E _ Y_D_act 0 0 15 [some (.ref (hg_ad E 0 0)), some (.int x), some (.int z), some (.int y), none] [.null] ((hg_u3 I 13 0 1 0), Lg, Rf, X) _
    refine hg_astoreN4 d_D_act_15 rfl ?_
    refine hg_aloadN4 d_D_act_17 ?_
    refine hg_ifnullN (tgt := 30) d_D_act_19 (by decide) ?_
    refine hg_iconst (v := 0) d_D_act_30 (by decide) ?_
    refine hg_ireturn d_D_act_31 rfl rfl ?_
    have hz : so_act G x z y = (0, gsK G (0, (gK G).2)) := by simp [so_act, iat]
    rw [hz]
    exact ⟨rfl, _, Lg, Rf, X, rfl, hR0.sK (fun k h1 h2 => hfu k h1) hK0, (fun k hk => ⟨hfu k (by omega), rfl, rfl⟩)⟩
  · have iat : hs_ix (hs_n (gN G)) (nI h) = some h := hs_ix_s hh (by omega)
    show hg_WP l E _ Y_D_act 0 0 15 [some (.ref (hg_ad E 0 0)), some (.int (nI h)), some (.int z), some (.int y), none] [.ref (hg_ad E 3 (6 * 0 + h))] ((hg_u3 I 13 0 1 0), Lg, Rf, X) _
    refine hg_astore4 d_D_act_15 rfl ?_
    refine hg_aload4 d_D_act_17 ?_
    refine hg_ifnull d_D_act_19 ?_
    refine hg_iload2 d_D_act_22 ?_
    refine hg_iconst (v := 2) d_D_act_23 (by decide) ?_
    refine hg_cSi d_D_act_24 l_D_80 rfl (Nat.le_of_ble_eq_true rfl) (m_D_within (b := 2) (by decide)) rfl ?_
    rintro _ _ ⟨⟨hhb, rfl⟩ | ⟨hhb, rfl⟩, rfl⟩
    · obtain ⟨a, ha, ea⟩ := hhb
      have ihb : hs_ix 3 z = some a := by rw [ea]; exact hs_ix_s (by omega) (by decide)
      subst ea
      show hg_WP l E _ Y_D_act 0 0 27 [some (.ref (hg_ad E 0 0)), some (.int (nI h)), some (.int (nI a)), some (.int y), some (.ref (hg_ad E 3 (6 * 0 + h)))] [.int 1] ((hg_u3 I 13 0 1 0), Lg, Rf, X) _
      refine hg_if_ne (tgt := 32) d_D_act_27 (by decide) (fun h_1 => ?_) (fun h_1 => absurd (by decide) h_1)
      refine hg_aload0 d_D_act_32 ?_
      refine hg_getR d_D_act_33 f_D_45 rfl rfl (hX.lt (n := 1) ⟨by decide, by decide⟩ rfl (by omega)) (hR.D (j := 12) (q := (13, 0)) rfl) ?_
      refine hg_iload1 d_D_act_36 ?_
      refine hg_aload4 d_D_act_37 ?_
      refine hg_iload2 d_D_act_39 ?_
      refine hg_iload3 d_D_act_40 ?_
      obtain ⟨⟨K, hK6, eK⟩, -⟩ := hO.2.2.2.2.1 h hh
      refine hg_cVi d_D_act_41 l_D_266 rfl rfl (hX.lt (n := 1) ⟨by decide, by decide⟩ rfl (by omega)) rfl (Nat.le_of_ble_eq_true rfl) (m_T_start (K := K) (a := a) (v := hs_hv (gN G) h 1) (st := (0, (gK G).2)) hX hR (by omega) hK6 (by omega) ((hC0.2.2.2.2.2.2.1 h 0 hh (by decide)).trans eK) (hC0.2.2.2.2.2.2.1 h 1 hh (by decide)) hK0 rfl) rfl ?_
      rintro _ _ ⟨I2, rfl, rfl, hC2, hf2⟩
      refine hg_ireturn d_D_act_44 rfl rfl ?_
      have hz : so_act G (nI h) (nI a) y = ((tk_run h (hs_hv (gN G) h 1) K a y (0, (gK G).2)).1, gsK G (tk_run h (hs_hv (gN G) h 1) K a y (0, (gK G).2)).2) := by simp [so_act, iat, ihb, eK, nI_clamp (show K < 2 ^ 31 by omega)]
      rw [hz]
      exact ⟨rfl, _, Lg, Rf, X, rfl, hR0.sK (fun k h1 h2 => (hf2 k h1 h2).trans (hfu k h1)) hC2, (fun k hk => ⟨(hf2 k (by omega) (by omega)).trans (hfu k (by omega)), rfl, rfl⟩)⟩
    · have ihb : hs_ix 3 z = none := hs_ix_n2 hhb
      refine hg_if_ne (tgt := 32) d_D_act_27 (by decide) (fun h_2 => absurd h_2 (by decide)) (fun h_2 => ?_)
      refine hg_iconst (v := 0) d_D_act_30 (by decide) ?_
      refine hg_ireturn d_D_act_31 rfl rfl ?_
      have hz : so_act G (nI h) z y = (0, gsK G (0, (gK G).2)) := by simp [so_act, iat, ihb]
      rw [hz]
      exact ⟨rfl, _, Lg, Rf, X, rfl, hR0.sK (fun k h1 h2 => hfu k h1) hK0, (fun k hk => ⟨hfu k (by omega), rfl, rfl⟩)⟩

theorem m_D_tape {x y z : Int32} (hR0 : hs_CR G I Lg Rf X) (hG : hs_gok G) : hg_MC l E (d + 3) Y_D_tape 0 0 [.ref (hg_ad E 0 0), .int x, .int y, .int z] (I, Lg, Rf, X) (hg_i (fun v M' => hs_CP v (so_tape G x y z).1 (so_tape G x y z).2 I Lg Rf M')) := by
  have hX := hR0.cX
  have hR := hR0.cR
  have hC := hR0.cN
  have hO := hG.1
  have hW := hR0.cW
  have hn6 := hO.1
  have hw := hG.2.1
  have hP := hR0.cP
  have hPk := hG.2.2.2.2.2.2.2.2.2.2
  refine hg_mc k_D_tape (Nat.le_of_ble_eq_true rfl) ?_
  show hg_WP l E _ Y_D_tape 0 0 0 [some (.ref (hg_ad E 0 0)), some (.int x), some (.int y), some (.int z), none] [] (I, Lg, Rf, X) _
  refine hg_aload0 d_D_tape_0 ?_
  refine hg_iload1 d_D_tape_1 ?_
  refine hg_cVr d_D_tape_2 l_D_245 rfl rfl (hX.lt (n := 1) ⟨by decide, by decide⟩ rfl (by omega)) rfl (Nat.le_of_ble_eq_true rfl) (m_D_tapeAt hX hR) rfl ?_
  rintro _ _ ⟨⟨hta, rfl⟩ | ⟨t, ht, rfl, rfl⟩, rfl⟩
  · have ita : hs_ix 6 x = none := hs_ix_n hta
    show hg_WP l E _ Y_D_tape 0 0 5 [some (.ref (hg_ad E 0 0)), some (.int x), some (.int y), some (.int z), none] [.null] (I, Lg, Rf, X) _
    refine hg_astoreN4 d_D_tape_5 rfl ?_
    refine hg_aloadN4 d_D_tape_7 ?_
    refine hg_ifnonnullN d_D_tape_9 ?_
    refine hg_iconst (v := (-1)) d_D_tape_12 (by decide) ?_
    refine hg_ireturn d_D_tape_13 rfl rfl ?_
    have hz : so_tape G x y z = (-1, G) := by simp [so_tape, ita]
    rw [hz]
    exact ⟨rfl, I, Lg, Rf, X, rfl, hR0, hg_kp.rf⟩
  · have ita : hs_ix 6 (nI t) = some t := hs_ix_s ht (by decide)
    have hPt := hP t ht
    have hPkt := hPk t ht
    show hg_WP l E _ Y_D_tape 0 0 5 [some (.ref (hg_ad E 0 0)), some (.int (nI t)), some (.int y), some (.int z), none] [.ref (hg_ad E 16 t)] (I, Lg, Rf, X) _
    refine hg_astore4 d_D_tape_5 rfl ?_
    refine hg_aload4 d_D_tape_7 ?_
    refine hg_ifnonnull (tgt := 14) d_D_tape_9 (by decide) ?_
    refine hg_iload2 d_D_tape_14 ?_
    refine hg_iconst (v := (-1)) d_D_tape_15 (by decide) ?_
    refine hg_icmp_eq (tgt := 43) d_D_tape_16 (by decide) (fun hm1 => ?_) (fun hm1 => ?_)
    · subst hm1
      show hg_WP l E _ Y_D_tape 0 0 43 [some (.ref (hg_ad E 0 0)), some (.int (nI t)), some (.int (-1)), some (.int z), some (.ref (hg_ad E 16 t))] [] (I, Lg, Rf, X) _
      refine hg_aload4 d_D_tape_43 ?_
      refine hg_iload2 d_D_tape_45 ?_
      refine hg_iload2 d_D_tape_46 ?_
      refine hg_iconst (v := (-1)) d_D_tape_47 (by decide) ?_
      refine hg_icmp_ne (tgt := 55) d_D_tape_48 (by decide) (fun hm2 => absurd hm2 (by decide)) (fun hm2 => ?_)
      refine hg_iconst (v := 0) d_D_tape_51 (by decide) ?_
      refine hg_goto (tgt := 56) d_D_tape_52 (by decide) ?_
      refine hg_cVv d_D_tape_56 l_D_283 rfl rfl (hX.lt (n := 6) ⟨by decide, by decide⟩ rfl (by omega)) rfl (Nat.le_of_ble_eq_true rfl) (m_P_hold (t := t) (n := 0) (x := -1) hX hR ht) rfl ?_
      rintro _ ⟨I2, L2, rfl, hp2, hf2, hg2⟩
      refine hg_iconst (v := 1) d_D_tape_59 (by decide) ?_
      refine hg_ireturn d_D_tape_60 rfl rfl ?_
      have hz : so_tape G (nI t) (-1) z = (1, gsP G t (-1, 0, fun _ => 0)) := by simp [so_tape, ita]
      rw [hz]
      exact ⟨rfl, _, L2, Rf, X, rfl, hR0.sP hf2 hg2 hp2, (fun k hk => ⟨funext fun i => hf2 k i (by omega), funext fun i => hg2 k i (by omega), rfl⟩)⟩
    · refine hg_iload2 d_D_tape_19 ?_
      refine hg_iconst (v := 4) d_D_tape_20 (by decide) ?_
      refine hg_cSi d_D_tape_21 l_D_80 rfl (Nat.le_of_ble_eq_true rfl) (m_D_within (b := 4) (by decide)) rfl ?_
      rintro _ _ ⟨⟨hhb, rfl⟩ | ⟨hhb, rfl⟩, rfl⟩
      · obtain ⟨k, hk, ek⟩ := hhb
        have ihb : hs_ix 5 y = some k := by rw [ek]; exact hs_ix_s (by omega) (by decide)
        subst ek
        show hg_WP l E _ Y_D_tape 0 0 24 [some (.ref (hg_ad E 0 0)), some (.int (nI t)), some (.int (nI k)), some (.int z), some (.ref (hg_ad E 16 t))] [.int 1] (I, Lg, Rf, X) _
        refine hg_if_eq (tgt := 33) d_D_tape_24 (by decide) (fun h_1 => absurd h_1 (by decide)) (fun h_1 => ?_)
        refine hg_iload3 d_D_tape_27 ?_
        refine hg_bipush (v := 60) d_D_tape_28 (by decide) ?_
        refine hg_icmp_le (tgt := 36) d_D_tape_30 (by decide) (fun h60 => ?_) (fun h60 => ?_)
        · refine hg_iload3 d_D_tape_36 ?_
          refine hg_if_ge (tgt := 43) d_D_tape_37 (by decide) (fun h0 => ?_) (fun h0 => ?_)
          · obtain ⟨n, hn60, rfl⟩ := hg_isin2 (n := 60) (by decide) (fun w => Int32.lt_irrefl (Int32.lt_of_lt_of_le w h0)) (fun w => Int32.lt_irrefl (Int32.lt_of_le_of_lt h60 w))
            show hg_WP l E _ Y_D_tape 0 0 43 [some (.ref (hg_ad E 0 0)), some (.int (nI t)), some (.int (nI k)), some (.int (nI n)), some (.ref (hg_ad E 16 t))] [] (I, Lg, Rf, X) _
            refine hg_aload4 d_D_tape_43 ?_
            refine hg_iload2 d_D_tape_45 ?_
            refine hg_iload2 d_D_tape_46 ?_
            refine hg_iconst (v := (-1)) d_D_tape_47 (by decide) ?_
            refine hg_icmp_ne (tgt := 55) d_D_tape_48 (by decide) (fun hm2 => ?_) (fun hm2 => ?_)
            · refine hg_iload3 d_D_tape_55 ?_
              refine hg_cVv d_D_tape_56 l_D_283 rfl rfl (hX.lt (n := 6) ⟨by decide, by decide⟩ rfl (by omega)) rfl (Nat.le_of_ble_eq_true rfl) (m_P_hold (t := t) (n := n) (x := nI k) hX hR ht) rfl ?_
              rintro _ ⟨I2, L2, rfl, hp2, hf2, hg2⟩
              refine hg_iconst (v := 1) d_D_tape_59 (by decide) ?_
              have h60n : ¬ (60 : Int32) < nI n := fun z => Int32.lt_irrefl (Int32.lt_of_le_of_lt h60 z)
              have h0n : ¬ nI n < 0 := nI_pos (by omega)
              refine hg_ireturn d_D_tape_60 rfl rfl ?_
              have hz : so_tape G (nI t) (nI k) (nI n) = (1, gsP G t (nI k, n, fun _ => 0)) := by simp [so_tape, ita, ihb, show ¬ nI k = -1 from nI_m1 (by omega), h60n, h0n, nI_clamp (show n < 2 ^ 31 by omega)]
              rw [hz]
              exact ⟨rfl, _, L2, Rf, X, rfl, hR0.sP hf2 hg2 hp2, (fun k hk => ⟨funext fun i => hf2 k i (by omega), funext fun i => hg2 k i (by omega), rfl⟩)⟩
            · replace hm2 := Decidable.not_not.mp hm2
              exact absurd hm2 (nI_m1 (by omega))
          · refine hg_bipush (v := (-14)) d_D_tape_40 (by decide) ?_
            have h60n : ¬ 60 < z := fun w => Int32.lt_irrefl (Int32.lt_of_le_of_lt h60 w)
            have h0n : z < 0 := Int32.not_le.mp h0
            refine hg_ireturn d_D_tape_42 rfl rfl ?_
            have hz : so_tape G (nI t) (nI k) z = (-14, G) := by simp [so_tape, ita, ihb, show ¬ nI k = -1 from nI_m1 (by omega), h60n, h0n]
            rw [hz]
            exact ⟨rfl, I, Lg, Rf, X, rfl, hR0, hg_kp.rf⟩
        · refine hg_bipush (v := (-2)) d_D_tape_33 (by decide) ?_
          have h60n : 60 < z := Int32.not_le.mp h60
          refine hg_ireturn d_D_tape_35 rfl rfl ?_
          have hz : so_tape G (nI t) (nI k) z = (-2, G) := by simp [so_tape, ita, ihb, show ¬ nI k = -1 from nI_m1 (by omega), h60n]
          rw [hz]
          exact ⟨rfl, I, Lg, Rf, X, rfl, hR0, hg_kp.rf⟩
      · have ihb : hs_ix 5 y = none := hs_ix_n2 hhb
        refine hg_if_eq (tgt := 33) d_D_tape_24 (by decide) (fun h_2 => ?_) (fun h_2 => absurd (by decide) h_2)
        refine hg_bipush (v := (-2)) d_D_tape_33 (by decide) ?_
        refine hg_ireturn d_D_tape_35 rfl rfl ?_
        have hz : so_tape G (nI t) y z = (-2, G) := by simp [so_tape, ita, ihb, hm1]
        rw [hz]
        exact ⟨rfl, I, Lg, Rf, X, rfl, hR0, hg_kp.rf⟩

theorem m_D_item {x i : Int32} {u : Int64} (hR0 : hs_CR G I Lg Rf X) (hG : hs_gok G) : hg_MC l E (d + 3) Y_D_item 0 0 [.ref (hg_ad E 0 0), .int x, .int i, .long u] (I, Lg, Rf, X) (hg_i (fun v M' => hs_CP v (so_item G x i u).1 (so_item G x i u).2 I Lg Rf M')) := by
  have hX := hR0.cX
  have hR := hR0.cR
  have hC := hR0.cN
  have hO := hG.1
  have hW := hR0.cW
  have hn6 := hO.1
  have hw := hG.2.1
  have hP := hR0.cP
  have hPk := hG.2.2.2.2.2.2.2.2.2.2
  refine hg_mc k_D_item (Nat.le_of_ble_eq_true rfl) ?_
  show hg_WP l E _ Y_D_item 0 0 0 [some (.ref (hg_ad E 0 0)), some (.int x), some (.int i), some (.long u), none, none] [] (I, Lg, Rf, X) _
  refine hg_aload0 d_D_item_0 ?_
  refine hg_iload1 d_D_item_1 ?_
  refine hg_cVr d_D_item_2 l_D_245 rfl rfl (hX.lt (n := 1) ⟨by decide, by decide⟩ rfl (by omega)) rfl (Nat.le_of_ble_eq_true rfl) (m_D_tapeAt hX hR) rfl ?_
  rintro _ _ ⟨⟨hta, rfl⟩ | ⟨t, ht, rfl, rfl⟩, rfl⟩
  · have ita : hs_ix 6 x = none := hs_ix_n hta
    show hg_WP l E _ Y_D_item 0 0 5 [some (.ref (hg_ad E 0 0)), some (.int x), some (.int i), some (.long u), none, none] [.null] (I, Lg, Rf, X) _
    refine hg_astoreN5 d_D_item_5 rfl ?_
    refine hg_aloadN5 d_D_item_7 ?_
    refine hg_ifnonnullN d_D_item_9 ?_
    refine hg_iconst (v := (-1)) d_D_item_12 (by decide) ?_
    refine hg_ireturn d_D_item_13 rfl rfl ?_
    have hz : so_item G x i u = (-1, G) := by simp [so_item, ita]
    rw [hz]
    exact ⟨rfl, I, Lg, Rf, X, rfl, hR0, hg_kp.rf⟩
  · have ita : hs_ix 6 (nI t) = some t := hs_ix_s ht (by decide)
    have hPt := hP t ht
    have hPkt := hPk t ht
    show hg_WP l E _ Y_D_item 0 0 5 [some (.ref (hg_ad E 0 0)), some (.int (nI t)), some (.int i), some (.long u), none, none] [.ref (hg_ad E 16 t)] (I, Lg, Rf, X) _
    refine hg_astore5 d_D_item_5 rfl ?_
    refine hg_aload5 d_D_item_7 ?_
    refine hg_ifnonnull (tgt := 14) d_D_item_9 (by decide) ?_
    refine hg_aload5 d_D_item_14 ?_
    refine hg_getI d_D_item_16 f_D_249 rfl rfl (hX.lt (n := 6) ⟨by decide, by decide⟩ rfl (by omega)) ?_
    refine hg_eq1 (y := (gP G t).1) (hPt.1) ?_
    refine hg_iconst (v := (-1)) d_D_item_19 (by decide) ?_
    refine hg_icmp_ne (tgt := 26) d_D_item_20 (by decide) (fun hm1 => ?_) (fun hm1 => ?_)
    · obtain ⟨k, hk4, ek⟩ := hPkt.2.resolve_left (fun z => hm1 z.1)
      refine hg_aload5 d_D_item_26 ?_
      refine hg_iload2 d_D_item_28 ?_
      have hPl := hPkt.1
      refine hg_cVi d_D_item_29 l_D_252 rfl rfl (hX.lt (n := 6) ⟨by decide, by decide⟩ rfl (by omega)) rfl (Nat.le_of_ble_eq_true rfl) (m_P_has (n := (gP G t).2.1) hX hR ht hPt.2.1 hPkt.1) rfl ?_
      rintro _ _ ⟨⟨hph, rfl⟩ | ⟨hph, rfl⟩, rfl⟩
      · obtain ⟨j, hj, ej⟩ := hph
        have iph : hs_ix (gP G t).2.1 i = some j := by rw [ej]; exact hs_ix_s hj (by omega)
        have hlj := hPt.2.2 j (by have := hPkt.1; omega)
        subst ej
        show hg_WP l E _ Y_D_item 0 0 32 [some (.ref (hg_ad E 0 0)), some (.int (nI t)), some (.int (nI j)), some (.long u), none, some (.ref (hg_ad E 16 t))] [.int 1] (I, Lg, Rf, X) _
        refine hg_if_ne (tgt := 38) d_D_item_32 (by decide) (fun h_1 => ?_) (fun h_1 => absurd (by decide) h_1)
        refine hg_aload5 d_D_item_38 ?_
        refine hg_getR d_D_item_40 f_D_253 rfl rfl (hX.lt (n := 6) ⟨by decide, by decide⟩ rfl (by omega)) (hR.p2 (by omega)) ?_
        refine hg_iload2 d_D_item_43 ?_
        refine hg_aload5 d_D_item_44 ?_
        refine hg_lload3 d_D_item_46 ?_
        refine hg_cVl d_D_item_47 l_D_286 rfl rfl (hX.lt (n := 6) ⟨by decide, by decide⟩ rfl (by omega)) rfl (Nat.le_of_ble_eq_true rfl) (m_P_cut (k := k) (v := u) hX hR ht (hPt.1.trans ek) hk4) rfl ?_
        rintro _ _ ⟨rfl, rfl⟩
        refine hg_last_n (j := j) d_D_item_50 rfl rfl (hX.lt (n := 6) ⟨by decide, by decide⟩ rfl (by omega)) (hX.jn (n := 60) (by decide) rfl (by omega)) ?_
        refine hg_iconst (v := 1) d_D_item_51 (by decide) ?_
        refine hg_ireturn d_D_item_52 rfl rfl ?_
        have hz : so_item G (nI t) (nI j) u = (1, gsP G t ((gP G t).1, (gP G t).2.1, hs_uL (gP G t).2.2 j (hs_cut k u))) := by simp [so_item, ita, iph, hm1, show ((gP G t).1).toNatClampNeg = k by rw [ek]; exact nI_clamp (by omega)]
        rw [hz]
        exact ⟨rfl, _, _, Rf, X, rfl, hR0.sP (fun _ _ _ => rfl) (fun a b hn => by funext q; exact hg_u3k hn) ⟨hPt.1, hPt.2.1, fun q hq => by show (if _ then _ else Lg 17 t q) = (if q = j then _ else (gP G t).2.2 q); by_cases e : q = j; (· subst e; rw [if_pos ⟨rfl, rfl, rfl⟩, if_pos rfl]); (· rw [if_neg (fun z => e z.2.2), if_neg e]; exact hPt.2.2 q hq)⟩, (fun a ha => ⟨rfl, funext fun b => funext fun q => hg_u3k (by omega), rfl⟩)⟩
      · have iph : hs_ix (gP G t).2.1 i = none := hs_ix_n hph
        refine hg_if_ne (tgt := 38) d_D_item_32 (by decide) (fun h_2 => absurd h_2 (by decide)) (fun h_2 => ?_)
        refine hg_bipush (v := (-13)) d_D_item_35 (by decide) ?_
        refine hg_ireturn d_D_item_37 rfl rfl ?_
        have hz : so_item G (nI t) i u = (-13, G) := by simp [so_item, ita, iph, hm1]
        rw [hz]
        exact ⟨rfl, I, Lg, Rf, X, rfl, hR0, hg_kp.rf⟩
    · replace hm1 := Decidable.not_not.mp hm1
      refine hg_bipush (v := (-11)) d_D_item_23 (by decide) ?_
      refine hg_ireturn d_D_item_25 rfl rfl ?_
      have hz : so_item G (nI t) i u = (-11, G) := by simp [so_item, ita, hm1]
      rw [hz]
      exact ⟨rfl, I, Lg, Rf, X, rfl, hR0, hg_kp.rf⟩

theorem m_D_shift {x i y j n : Int32} (hR0 : hs_CR G I Lg Rf X) (hG : hs_gok G) : hg_MC l E (d + 3) Y_D_shift 0 0 [.ref (hg_ad E 0 0), .int x, .int i, .int y, .int j, .int n] (I, Lg, Rf, X) (hg_i (fun v M' => hs_CP v (so_shift G x i y j n).1 (so_shift G x i y j n).2 I Lg Rf M')) := by
  have hX := hR0.cX
  have hR := hR0.cR
  have hC := hR0.cN
  have hO := hG.1
  have hW := hR0.cW
  have hn6 := hO.1
  have hw := hG.2.1
  have hP := hR0.cP
  have hPk := hG.2.2.2.2.2.2.2.2.2.2
  refine hg_mc k_D_shift (Nat.le_of_ble_eq_true rfl) ?_
  show hg_WP l E _ Y_D_shift 0 0 0 [some (.ref (hg_ad E 0 0)), some (.int x), some (.int i), some (.int y), some (.int j), some (.int n), none, none] [] (I, Lg, Rf, X) _
  refine hg_aload0 d_D_shift_0 ?_
  refine hg_iload1 d_D_shift_1 ?_
  refine hg_cVr d_D_shift_2 l_D_245 rfl rfl (hX.lt (n := 1) ⟨by decide, by decide⟩ rfl (by omega)) rfl (Nat.le_of_ble_eq_true rfl) (m_D_tapeAt hX hR) rfl ?_
  rintro _ _ ⟨⟨hta, rfl⟩ | ⟨t, ht, rfl, rfl⟩, rfl⟩
  · have ita : hs_ix 6 x = none := hs_ix_n hta
    show hg_WP l E _ Y_D_shift 0 0 5 [some (.ref (hg_ad E 0 0)), some (.int x), some (.int i), some (.int y), some (.int j), some (.int n), none, none] [.null] (I, Lg, Rf, X) _
    refine hg_astoreN6 d_D_shift_5 rfl ?_
    refine hg_aload0 d_D_shift_7 ?_
    refine hg_iload3 d_D_shift_8 ?_
    refine hg_cVr d_D_shift_9 l_D_245 rfl rfl (hX.lt (n := 1) ⟨by decide, by decide⟩ rfl (by omega)) rfl (Nat.le_of_ble_eq_true rfl) (m_D_tapeAt hX hR) rfl ?_
    rintro _ _ ⟨⟨htb, rfl⟩ | ⟨u, hu, rfl, rfl⟩, rfl⟩
    · have itb : hs_ix 6 y = none := hs_ix_n htb
      show hg_WP l E _ Y_D_shift 0 0 12 [some (.ref (hg_ad E 0 0)), some (.int x), some (.int i), some (.int y), some (.int j), some (.int n), some (.null), none] [.null] (I, Lg, Rf, X) _
      refine hg_astoreN7 d_D_shift_12 rfl ?_
      refine hg_aloadN6 d_D_shift_14 ?_
      refine hg_ifnullN (tgt := 24) d_D_shift_16 (by decide) ?_
      refine hg_iconst (v := (-1)) d_D_shift_24 (by decide) ?_
      refine hg_ireturn d_D_shift_25 rfl rfl ?_
      have hz : so_shift G x i y j n = (-1, G) := by simp [so_shift, ita, itb]
      rw [hz]
      exact ⟨rfl, I, Lg, Rf, X, rfl, hR0, hg_kp.rf⟩
    · have itb : hs_ix 6 (nI u) = some u := hs_ix_s hu (by decide)
      have hPu := hP u hu
      have hPku := hPk u hu
      show hg_WP l E _ Y_D_shift 0 0 12 [some (.ref (hg_ad E 0 0)), some (.int x), some (.int i), some (.int (nI u)), some (.int j), some (.int n), some (.null), none] [.ref (hg_ad E 16 u)] (I, Lg, Rf, X) _
      refine hg_astore7 d_D_shift_12 rfl ?_
      refine hg_aloadN6 d_D_shift_14 ?_
      refine hg_ifnullN (tgt := 24) d_D_shift_16 (by decide) ?_
      refine hg_iconst (v := (-1)) d_D_shift_24 (by decide) ?_
      refine hg_ireturn d_D_shift_25 rfl rfl ?_
      have hz : so_shift G x i (nI u) j n = (-1, G) := by simp [so_shift, ita, itb]
      rw [hz]
      exact ⟨rfl, I, Lg, Rf, X, rfl, hR0, hg_kp.rf⟩
  · have ita : hs_ix 6 (nI t) = some t := hs_ix_s ht (by decide)
    have hPt := hP t ht
    have hPkt := hPk t ht
    show hg_WP l E _ Y_D_shift 0 0 5 [some (.ref (hg_ad E 0 0)), some (.int (nI t)), some (.int i), some (.int y), some (.int j), some (.int n), none, none] [.ref (hg_ad E 16 t)] (I, Lg, Rf, X) _
    refine hg_astore6 d_D_shift_5 rfl ?_
    refine hg_aload0 d_D_shift_7 ?_
    refine hg_iload3 d_D_shift_8 ?_
    refine hg_cVr d_D_shift_9 l_D_245 rfl rfl (hX.lt (n := 1) ⟨by decide, by decide⟩ rfl (by omega)) rfl (Nat.le_of_ble_eq_true rfl) (m_D_tapeAt hX hR) rfl ?_
    rintro _ _ ⟨⟨htb, rfl⟩ | ⟨u, hu, rfl, rfl⟩, rfl⟩
    · have itb : hs_ix 6 y = none := hs_ix_n htb
      show hg_WP l E _ Y_D_shift 0 0 12 [some (.ref (hg_ad E 0 0)), some (.int (nI t)), some (.int i), some (.int y), some (.int j), some (.int n), some (.ref (hg_ad E 16 t)), none] [.null] (I, Lg, Rf, X) _
      refine hg_astoreN7 d_D_shift_12 rfl ?_
      refine hg_aload6 d_D_shift_14 ?_
      refine hg_ifnull d_D_shift_16 ?_
      refine hg_aloadN7 d_D_shift_19 ?_
      refine hg_ifnonnullN d_D_shift_21 ?_
      refine hg_iconst (v := (-1)) d_D_shift_24 (by decide) ?_
      refine hg_ireturn d_D_shift_25 rfl rfl ?_
      have hz : so_shift G (nI t) i y j n = (-1, G) := by simp [so_shift, ita, itb]
      rw [hz]
      exact ⟨rfl, I, Lg, Rf, X, rfl, hR0, hg_kp.rf⟩
    · have itb : hs_ix 6 (nI u) = some u := hs_ix_s hu (by decide)
      have hPu := hP u hu
      have hPku := hPk u hu
      show hg_WP l E _ Y_D_shift 0 0 12 [some (.ref (hg_ad E 0 0)), some (.int (nI t)), some (.int i), some (.int (nI u)), some (.int j), some (.int n), some (.ref (hg_ad E 16 t)), none] [.ref (hg_ad E 16 u)] (I, Lg, Rf, X) _
      refine hg_astore7 d_D_shift_12 rfl ?_
      refine hg_aload6 d_D_shift_14 ?_
      refine hg_ifnull d_D_shift_16 ?_
      refine hg_aload7 d_D_shift_19 ?_
      refine hg_ifnonnull (tgt := 26) d_D_shift_21 (by decide) ?_
      refine hg_aload6 d_D_shift_26 ?_
      refine hg_getI d_D_shift_28 f_D_249 rfl rfl (hX.lt (n := 6) ⟨by decide, by decide⟩ rfl (by omega)) ?_
      refine hg_eq1 (y := (gP G t).1) (hPt.1) ?_
      refine hg_iconst (v := (-1)) d_D_shift_31 (by decide) ?_
      refine hg_icmp_eq (tgt := 44) d_D_shift_32 (by decide) (fun hm1 => ?_) (fun hm1 => ?_)
      · refine hg_bipush (v := (-11)) d_D_shift_44 (by decide) ?_
        refine hg_ireturn d_D_shift_46 rfl rfl ?_
        have hz : so_shift G (nI t) i (nI u) j n = (-11, G) := by simp [so_shift, ita, itb, hm1]
        rw [hz]
        exact ⟨rfl, I, Lg, Rf, X, rfl, hR0, hg_kp.rf⟩
      · refine hg_aload7 d_D_shift_35 ?_
        refine hg_getI d_D_shift_37 f_D_249 rfl rfl (hX.lt (n := 6) ⟨by decide, by decide⟩ rfl (by omega)) ?_
        refine hg_eq1 (y := (gP G u).1) (hPu.1) ?_
        refine hg_iconst (v := (-1)) d_D_shift_40 (by decide) ?_
        refine hg_icmp_ne (tgt := 47) d_D_shift_41 (by decide) (fun hm2 => ?_) (fun hm2 => ?_)
        · refine hg_aload6 d_D_shift_47 ?_
          refine hg_getI d_D_shift_49 f_D_249 rfl rfl (hX.lt (n := 6) ⟨by decide, by decide⟩ rfl (by omega)) ?_
          refine hg_eq1 (y := (gP G t).1) (hPt.1) ?_
          refine hg_aload7 d_D_shift_52 ?_
          refine hg_getI d_D_shift_54 f_D_249 rfl rfl (hX.lt (n := 6) ⟨by decide, by decide⟩ rfl (by omega)) ?_
          refine hg_eq1 (y := (gP G u).1) (hPu.1) ?_
          refine hg_icmp_eq (tgt := 63) d_D_shift_57 (by decide) (fun hss => ?_) (fun hss => ?_)
          · refine hg_aload6 d_D_shift_63 ?_
            refine hg_iload2 d_D_shift_65 ?_
            refine hg_iload5 d_D_shift_66 ?_
            refine hg_cVi d_D_shift_68 l_D_290 rfl rfl (hX.lt (n := 6) ⟨by decide, by decide⟩ rfl (by omega)) rfl (Nat.le_of_ble_eq_true rfl) (m_P_hasAll (m := (gP G t).2.1) hX hR ht hPt.2.1 hPkt.1) rfl ?_
            rintro _ _ ⟨⟨hhc, rfl⟩ | ⟨hhc, rfl⟩, rfl⟩
            · have ihc : hs_al (gP G t).2.1 i n = true := hs_B_t.mpr hhc
              refine hg_if_eq (tgt := 86) d_D_shift_71 (by decide) (fun h_1 => absurd h_1 (by decide)) (fun h_1 => ?_)
              refine hg_aload7 d_D_shift_74 ?_
              refine hg_iload4 d_D_shift_76 ?_
              refine hg_iload5 d_D_shift_78 ?_
              refine hg_cVi d_D_shift_80 l_D_290 rfl rfl (hX.lt (n := 6) ⟨by decide, by decide⟩ rfl (by omega)) rfl (Nat.le_of_ble_eq_true rfl) (m_P_hasAll (m := (gP G u).2.1) hX hR hu hPu.2.1 hPku.1) rfl ?_
              rintro _ _ ⟨⟨hhd, rfl⟩ | ⟨hhd, rfl⟩, rfl⟩
              · have ihd : hs_al (gP G u).2.1 j n = true := hs_B_t.mpr hhd
                refine hg_if_ne (tgt := 89) d_D_shift_83 (by decide) (fun h_2 => ?_) (fun h_2 => absurd (by decide) h_2)
                have hP1 := hPkt.1
                have hP2 := hPku.1
                obtain ⟨a, b, eb, ea, hab⟩ := hhc
                obtain ⟨c, b2, eb2, ec, hcb⟩ := hhd
                obtain rfl : b = b2 := (nI_eq (by omega) (by omega)).mp (eb.symm.trans eb2)
                have ca := nI_clamp (show a < 2 ^ 31 by omega)
                have cb := nI_clamp (show b < 2 ^ 31 by omega)
                have cc := nI_clamp (show c < 2 ^ 31 by omega)
                subst eb
                subst ea
                subst ec
                show hg_WP l E _ Y_D_shift 0 0 89 [some (.ref (hg_ad E 0 0)), some (.int (nI t)), some (.int (nI a)), some (.int (nI u)), some (.int (nI c)), some (.int (nI b)), some (.ref (hg_ad E 16 t)), some (.ref (hg_ad E 16 u))] [] (I, Lg, Rf, X) _
                refine hg_aload6 d_D_shift_89 ?_
                refine hg_getR d_D_shift_91 f_D_253 rfl rfl (hX.lt (n := 6) ⟨by decide, by decide⟩ rfl (by omega)) (hR.p2 (by omega)) ?_
                refine hg_iload2 d_D_shift_94 ?_
                refine hg_aload7 d_D_shift_95 ?_
                refine hg_getR d_D_shift_97 f_D_253 rfl rfl (hX.lt (n := 6) ⟨by decide, by decide⟩ rfl (by omega)) (hR.p2 (by omega)) ?_
                refine hg_iload4 d_D_shift_100 ?_
                refine hg_iload5 d_D_shift_102 ?_
                refine hg_copyL d_D_shift_104 l_D_293 rfl rfl (hX.lt (n := 6) ⟨by decide, by decide⟩ rfl (by omega)) rfl rfl (hX.lt (n := 6) ⟨by decide, by decide⟩ rfl (by omega)) (nI_pos (by omega)) (nI_pos (by omega)) (nI_pos (by omega)) (by rw [hX.2.2.2.2 17 _ (by decide), ca, cb]; show a + b ≤ 60; omega) (by rw [hX.2.2.2.2 17 _ (by decide), cc, cb]; show c + b ≤ 60; omega) (Nat.le_of_ble_eq_true rfl) ?_
                refine hg_iload5 d_D_shift_107 ?_
                refine hg_ireturn d_D_shift_109 rfl rfl ?_
                have hz : so_shift G (nI t) (nI a) (nI u) (nI c) (nI b) = (nI b, gsP G u ((gP G u).1, (gP G u).2.1, fun q => if (nI c).toNatClampNeg ≤ q ∧ q < (nI c).toNatClampNeg + (nI b).toNatClampNeg then (gP G t).2.2 ((nI a).toNatClampNeg + (q - (nI c).toNatClampNeg)) else (gP G u).2.2 q)) := by simp [so_shift, ita, itb, ihc, ihd, hm1, hm2, hss]
                rw [hz]
                exact ⟨rfl, _, _, Rf, X, rfl, hR0.sP (fun _ _ _ => rfl) (fun k q hn => by funext z; unfold hg_cp; rw [if_neg (fun y => hn ⟨y.1, y.2.1⟩)]) ⟨hPu.1, hPu.2.1, fun q hq => by (show (if _ then _ else _) = (if _ then _ else _)); rw [ca, cb, cc]; by_cases e : c ≤ q ∧ q < c + b; (· rw [if_pos ⟨rfl, rfl, e⟩, if_pos e]; exact hPt.2.2 _ (by omega)); (· rw [if_neg (fun y => e y.2.2), if_neg e]; exact hPu.2.2 q hq)⟩, (fun k hk => ⟨rfl, funext fun b => funext fun q => if_neg (by omega), rfl⟩)⟩
              · have ihd : hs_al (gP G u).2.1 j n = false := hs_B_f.mpr hhd
                refine hg_if_ne (tgt := 89) d_D_shift_83 (by decide) (fun h_3 => absurd h_3 (by decide)) (fun h_3 => ?_)
                refine hg_bipush (v := (-13)) d_D_shift_86 (by decide) ?_
                refine hg_ireturn d_D_shift_88 rfl rfl ?_
                have hz : so_shift G (nI t) i (nI u) j n = (-13, G) := by simp [so_shift, ita, itb, ihc, ihd, hm1, hm2, hss]
                rw [hz]
                exact ⟨rfl, I, Lg, Rf, X, rfl, hR0, hg_kp.rf⟩
            · have ihc : hs_al (gP G t).2.1 i n = false := hs_B_f.mpr hhc
              refine hg_if_eq (tgt := 86) d_D_shift_71 (by decide) (fun h_4 => ?_) (fun h_4 => absurd (by decide) h_4)
              refine hg_bipush (v := (-13)) d_D_shift_86 (by decide) ?_
              refine hg_ireturn d_D_shift_88 rfl rfl ?_
              have hz : so_shift G (nI t) i (nI u) j n = (-13, G) := by simp [so_shift, ita, itb, ihc, hm1, hm2, hss]
              rw [hz]
              exact ⟨rfl, I, Lg, Rf, X, rfl, hR0, hg_kp.rf⟩
          · refine hg_bipush (v := (-12)) d_D_shift_60 (by decide) ?_
            refine hg_ireturn d_D_shift_62 rfl rfl ?_
            have hz : so_shift G (nI t) i (nI u) j n = (-12, G) := by simp [so_shift, ita, itb, hm1, hm2, hss]
            rw [hz]
            exact ⟨rfl, I, Lg, Rf, X, rfl, hR0, hg_kp.rf⟩
        · replace hm2 := Decidable.not_not.mp hm2
          refine hg_bipush (v := (-11)) d_D_shift_44 (by decide) ?_
          refine hg_ireturn d_D_shift_46 rfl rfl ?_
          have hz : so_shift G (nI t) i (nI u) j n = (-11, G) := by simp [so_shift, ita, itb, hm2]
          rw [hz]
          exact ⟨rfl, I, Lg, Rf, X, rfl, hR0, hg_kp.rf⟩

end M14
