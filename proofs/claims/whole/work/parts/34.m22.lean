/-! HangmanDinner: town -/
section M22
variable {l : Launch} {E : hg_E} {d : Nat}
variable {I : Nat → Nat → Nat → Int32} {Lg : Nat → Nat → Nat → Int64} {Rf : Nat → Nat → Nat → Option (Nat × Nat)} {X : Nat × (Nat → Nat) × (Nat → Nat → Nat)}
variable {G : hs_G}variable {I1 I2 I' : Nat → Nat → Nat → Int32} {Rf' : Nat → Nat → Nat → Option (Nat × Nat)}
theorem hg_SR.grow {T : Nat} (h : hg_SR T Rf) (e : ∀ k i j, ¬ ((k = 19 ∨ k = 20) ∧ i = T + 1) → Rf' k i j = Rf k i j) (h0 : Rf' 19 (T + 1) 0 = some (20, T + 1)) : hg_SR (T + 1) Rf' := by
  obtain ⟨h1, h2, h3, h4, h5, h6, h7, h8, h9⟩ := h
  refine ⟨fun j q hq => by rw [e 0 0 j (by omega)]; exact h1 j q hq, fun j q hq => by rw [e 21 0 j (by omega)]; exact h2 j q hq, fun s hs => ?_, fun s j hs hj => by rw [e 2 s j (by omega)]; exact h4 s j hs hj, fun i hi => by rw [e 3 i 7 (by omega)]; exact h5 i hi, fun r hr => ?_, ?_, fun j hj => ?_, fun t ht => ?_⟩
  · rw [e 1 s 0 (by omega), e 1 s 1 (by omega), e 1 s 8 (by omega)]; exact h3 s hs
  · rw [e 7 r 0 (by omega), e 7 r 1 (by omega)]; exact h6 r hr
  · rw [e 10 0 0 (by omega), e 10 0 3 (by omega), e 13 0 0 (by omega)]; exact h7
  · rw [e 15 0 j (by omega), e 16 j 2 (by omega)]; exact h8 j hj
  · by_cases z : t = T + 1
    · subst z; exact h0
    · rw [e 19 t 0 (by omega)]; exact h9 t (by omega)
theorem hg_XS.grow {T w : Nat} (h : hg_XS T X) : hg_XS (T + 1) (X.1 + 2, hg_up (hg_up X.2.1 19 (T + 2)) 20 (T + 2), hg_up2 X.2.2 20 (T + 1) w) := by
  refine ⟨by have := h.1; show X.1 + 2 = 120 + 2 * (T + 1); omega, fun k h1 h2 => ?_, ?_, ?_, fun k i hk => ?_⟩
  · show hg_up (hg_up X.2.1 19 (T + 2)) 20 (T + 2) k = _
    simp only [hg_up]; rw [if_neg h2, if_neg h1]; exact h.2.1 k h1 h2
  · show hg_up (hg_up X.2.1 19 (T + 2)) 20 (T + 2) 19 = _
    simp [hg_up]
  · show hg_up (hg_up X.2.1 19 (T + 2)) 20 (T + 2) 20 = _
    simp [hg_up]
  · show hg_up2 X.2.2 20 (T + 1) w k i = _
    simp only [hg_up2]; rw [if_neg (fun z => hk z.1)]; exact h.2.2.2.2 k i hk
theorem hs_N_cg {f g : Nat → Int32} (h : ∀ j, j < 6 → f j = g j) : hs_N f = hs_N g := by
  funext j
  unfold hs_N
  split
  · exact h j ‹_›
  · rfl
theorem m_R_place {T p : Nat} (hX : hg_XS T X) (hp : I 10 0 2 = nI p) : hg_MC l E (d + 1) Y_R_place 0 0 [.ref (hg_ad E 10 0)] (I, Lg, Rf, X) (hg_i (fun v M' => v = nI p ∧ M' = (I, Lg, Rf, X))) := by
  refine hg_mc k_R_place (Nat.le_of_ble_eq_true rfl) ?_
  show hg_WP l E _ Y_R_place 0 0 0 [some (.ref (hg_ad E 10 0))] [] (I, Lg, Rf, X) _
  refine hg_aload0 d_R_place_0 ?_
  refine hg_getI d_R_place_1 f_R_23 rfl rfl (hX.lt (n := 1) ⟨by decide, by decide⟩ rfl (by omega)) ?_
  refine hg_eq1 (y := nI p) (hp) ?_
  refine hg_ireturn d_R_place_4 rfl rfl ?_
  exact ⟨rfl, rfl⟩

theorem m_D_town (hR0 : hs_CR G I Lg Rf X) (hG : hs_gok G) : hg_MC l E (d + 23) Y_D_town 2 200 [.ref (hg_ad E 0 0)] (I, Lg, Rf, X) (hg_i (fun v M' => hs_CP v (so_town G).1 (so_town G).2 I Lg Rf M')) := by
  have hX := hR0.cX
  have hR := hR0.cR
  have hC := hR0.cN
  have hO := hG.1
  have hW := hR0.cW
  have hn6 := hO.1
  have hw := hG.2.1
  have hT : gT G ≤ 6 := hG.2.2.2.2.2.2.2.2.1
  have hx : ps_X (gX G).1 (gX G).2 I := ⟨hR0.cx1, hR0.2.2.2.2.2.2.2.1.2, hG.2.2.2.2.2.2.1, hG.2.2.2.2.2.2.2.1⟩
  refine hg_mc k_D_town (Nat.le_of_ble_eq_true rfl) ?_
  show hg_WP l E _ Y_D_town 2 200 0 [some (.ref (hg_ad E 0 0)), none] [] (I, Lg, Rf, X) _
  refine hg_aload0 d_D_town_0 ?_
  refine hg_getI d_D_town_1 f_D_143 rfl rfl (hX.lt (n := 1) ⟨by decide, by decide⟩ rfl (by omega)) ?_
  refine hg_eq1 (y := nI (gT G)) (hR0.cT) ?_
  refine hg_bipush (v := 6) d_D_town_4 (by decide) ?_
  refine hg_icmp_ne (tgt := 12) d_D_town_6 (by decide) (fun h6 => ?_) (fun h6 => ?_)
  · have hT6 : gT G < 6 := Nat.lt_of_le_of_ne hT (fun z => h6 (by rw [z]; rfl))
    refine hg_aload0 d_D_town_12 ?_
    refine hg_getR d_D_town_13 f_D_38 rfl rfl (hX.lt (n := 1) ⟨by decide, by decide⟩ rfl (by omega)) (hR.D (j := 10) (q := (10, 0)) rfl) ?_
    refine hg_callV (k := 10) (i := 0) (As := []) (rest := []) (mc' := 2) (ms' := 200) d_D_town_16 l_D_146 rfl rfl (hX.lt (n := 1) ⟨by decide, by decide⟩ rfl (by omega)) rfl (Nat.le_of_ble_eq_true rfl) ⟨Nat.le_refl _, Nat.le_refl _⟩ (m_R_understand (n := (gX G).1) (L := (gX G).2) hX hR hx hT6) rfl ?_
    rintro _ M1 ⟨q, rfl, I1, hk1, h101, h102, hple, ⟨rfl, hno, hk2, rfl⟩ | ⟨rfl, hyes, hill, w, hw100, hfe, rfl⟩⟩
    · show hg_WP l E _ Y_D_town _ _ 19 [some (.ref (hg_ad E 0 0)), none] [.null] _ _
      refine hg_astoreN1 d_D_town_19 rfl ?_
      refine hg_aloadN1 d_D_town_20 ?_
      refine hg_ifnonnullN d_D_town_21 ?_
      refine hg_bipush (v := (-10)) d_D_town_24 (by decide) ?_
      refine hg_aload0 d_D_town_26 ?_
      refine hg_getR d_D_town_27 f_D_38 rfl rfl (hX.lt (n := 1) ⟨by decide, by decide⟩ rfl (by omega)) (hR.D (j := 10) (q := (10, 0)) rfl) ?_
      refine hg_cVi d_D_town_30 l_D_150 rfl rfl (hX.lt (n := 1) ⟨by decide, by decide⟩ rfl (by omega)) rfl (Nat.le_of_ble_eq_true rfl) (m_R_place hX h102) rfl ?_
      rintro _ _ ⟨rfl, rfl⟩
      refine hg_isub d_D_town_33 ?_
      refine hg_ireturn d_D_town_34 rfl rfl ?_
      have hz : so_town G = (-10 - nI (ps_tw (gX G).1 (gX G).2).2.1, gsX G (0, (gX G).2)) := by unfold so_town; rw [if_neg (by omega), if_neg hno]
      rw [hz]
      exact ⟨rfl, I1, Lg, Rf, X, rfl, hR0.sX (fun k a b c => hk2 k a c) ⟨h101, fun j hj => absurd hj (Nat.not_lt_zero _)⟩, (fun k hk => ⟨funext fun i => hk1 k i (by omega), rfl, rfl⟩)⟩
    · show hg_WP l E _ Y_D_town _ _ 19 [some (.ref (hg_ad E 0 0)), none] [.ref (hg_ad E 19 (gT G + 1))] _ _
      have hX9 := hX.grow (w := w)
      have hRe : ∀ k i j, ¬ ((k = 19 ∨ k = 20) ∧ i = gT G + 1) → (hg_u3 (hg_z3 (hg_z3 Rf 19 (gT G + 1) none) 20 (gT G + 1) none) 19 (gT G + 1) 0 (some (20, gT G + 1))) k i j = Rf k i j := fun k i j hn => by simp only [hg_u3, hg_z3]; rw [if_neg (by omega), if_neg (by omega), if_neg (by omega)]
      have hR9 := hR.grow (Rf' := (hg_u3 (hg_z3 (hg_z3 Rf 19 (gT G + 1) none) 20 (gT G + 1) none) 19 (gT G + 1) 0 (some (20, gT G + 1)))) hRe (by simp [hg_u3])
      have h0T : I1 0 0 11 = nI (gT G) := by rw [hk1 0 0 (by omega)]; exact hR0.cT
      have hXo := hX
      have hRo := hR
      have hX := hX9
      have hR := hR9
      refine hg_astore1 d_D_town_19 rfl ?_
      refine hg_aload1 d_D_town_20 ?_
      refine hg_ifnonnull (tgt := 35) d_D_town_21 (by decide) ?_
      refine hg_aload0 d_D_town_35 ?_
      refine hg_getR d_D_town_36 f_D_69 rfl rfl (hX.lt (n := 1) ⟨by decide, by decide⟩ rfl (by omega)) (hR.D (j := 0) (q := (1, 0)) rfl) ?_
      refine hg_aload1 d_D_town_39 ?_
      refine hg_putR d_D_town_40 f_D_154 rfl rfl (Or.inl rfl) (fun _ => rfl) (fun _ => rfl) (hX.lt (n := 3) ⟨by decide, by decide⟩ rfl (by omega)) ?_
      refine hg_aload0 d_D_town_43 ?_
      refine hg_dup d_D_town_44 rfl ?_
      refine hg_getI d_D_town_45 f_D_143 rfl rfl (hX.lt (n := 1) ⟨by decide, by decide⟩ rfl (by omega)) ?_
      refine hg_eq1 (y := nI (gT G)) (h0T) ?_
      refine hg_iconst (v := 1) d_D_town_48 (by decide) ?_
      refine hg_iadd d_D_town_49 ?_
      refine hg_eq1 (y := nI ((gT G) + 1)) (nI_add _ _) ?_
      refine hg_putI d_D_town_50 f_D_143 rfl rfl (Or.inl rfl) rfl rfl (hX.lt (n := 1) ⟨by decide, by decide⟩ rfl (by omega)) ?_
      refine hg_aload0 d_D_town_53 ?_
      refine hg_getI d_D_town_54 f_D_143 rfl rfl (hX.lt (n := 1) ⟨by decide, by decide⟩ rfl (by omega)) ?_
      refine hg_eq1 (y := nI ((gT G) + 1)) (by simp [hg_u3]) ?_
      refine hg_iconst (v := 1) d_D_town_57 (by decide) ?_
      refine hg_isub d_D_town_58 ?_
      refine hg_eq1 (y := nI (gT G)) (nI_pred _) ?_
      refine hg_ireturn d_D_town_59 rfl rfl ?_
      have hz : so_town G = (nI (gT G), gsT G ((gN G).1, hs_st (gN G), hs_hv (gN G), hs_rw (gN G), gT G + 1) (0, (gX G).2) (fun t => if t = gT G + 1 then ((fun f => (ps_tw (gX G).1 (gX G).2).2.2.1 (hs_N f)), (ps_tw (gX G).1 (gX G).2).2.2.2) else gW G t)) := by unfold so_town; rw [if_neg (by omega), if_pos hyes]
      rw [hz]
      have hI : ∀ k i, k ≠ 0 → k ≠ 10 → k ≠ 12 → ¬ ((k = 19 ∨ k = 20) ∧ i = gT G + 1) → (hg_u3 I1 0 0 11 (nI ((gT G) + 1))) k i = I k i := fun k i a b c e => by rw [← hk1 k i (by omega)]; funext j; exact hg_u3k (fun z => a z.1)
      have hw9 : hc_TW (gT G + 1) (fun t => if t = gT G + 1 then ((fun f => (ps_tw (gX G).1 (gX G).2).2.2.1 (hs_N f)), (ps_tw (gX G).1 (gX G).2).2.2.2) else gW G t) (hg_u3 I1 0 0 11 (nI ((gT G) + 1))) (X.1 + 2, hg_up (hg_up X.2.1 19 (gT G + 2)) 20 (gT G + 2), hg_up2 X.2.2 20 (gT G + 1) w) := by
        intro t ht
        have e1 : (hg_u3 I1 0 0 11 (nI ((gT G) + 1))) 19 t = I1 19 t := funext fun j => hg_u3k (by omega)
        have e2 : (hg_u3 I1 0 0 11 (nI ((gT G) + 1))) 20 t = I1 20 t := funext fun j => hg_u3k (by omega)
        rw [e1, e2]
        show _ ∧ hg_up2 X.2.2 20 (gT G + 1) w 20 t ≤ 100 ∧ ∀ f g : Nat → Int32, (∀ j, j < 6 → f j = g j) → hc_fear (I1 20 t) (hg_up2 X.2.2 20 (gT G + 1) w 20 t) f = _
        by_cases z : t = gT G + 1
        · subst z
          dsimp only
          rw [if_pos rfl, show hg_up2 X.2.2 20 (gT G + 1) w 20 (gT G + 1) = w from by simp [hg_up2]]
          exact ⟨hill, hw100, fun f g h => by rw [hfe f, hs_N_cg h]⟩
        · dsimp only
          rw [if_neg z, show hg_up2 X.2.2 20 (gT G + 1) w 20 t = X.2.2 20 t from by simp [hg_up2, z], hk1 19 t (by omega), hk1 20 t (by omega)]
          exact hW t (by omega)
      obtain ⟨c1, c2, c3, c4, c5, c6, c7, c8, c9⟩ := hC
      refine ⟨rfl, _, _, _, _, rfl, ⟨hX9, hR9.tn (s := 0), hg_u3s _ _ _ _ _, ⟨(congrFun (hI 1 0 (by omega) (by omega) (by omega) (by omega)) 2).trans c1, (congrFun (hI 1 0 (by omega) (by omega) (by omega) (by omega)) 3).trans c2, (congrFun (hI 1 0 (by omega) (by omega) (by omega) (by omega)) 4).trans c3, (congrFun (hI 1 0 (by omega) (by omega) (by omega) (by omega)) 5).trans c4, (congrFun (hI 1 0 (by omega) (by omega) (by omega) (by omega)) 6).trans c5, fun j hj => (congrFun (hI 5 0 (by omega) (by omega) (by omega) (by omega)) j).trans (c6 j hj), fun h f hh hf => (congrFun (hI 3 _ (by omega) (by omega) (by omega) (by omega)) f).trans (c7 h f hh hf), fun h j hh hj => (congrFun (hI 4 _ (by omega) (by omega) (by omega) (by omega)) j).trans (c8 h j hh hj), hg_u3s _ _ _ _ _⟩, fun hH => (hR0.cI hH).kp (hI 1 2 (by omega) (by omega) (by omega) (by omega)) (hI 5 2 (by omega) (by omega) (by omega) (by omega)) (fun k hk => (hI 3 _ (by omega) (by omega) (by omega) (by omega))) (fun k hk => (hI 4 _ (by omega) (by omega) (by omega) (by omega))) ((hg_u3k (by omega)).trans (hRe 1 2 7 (by omega))), ?_, fun r hr => (hR0.cL hr).kp (hI 7 r (by omega) (by omega) (by omega) (by omega)) (hI 8 r (by omega) (by omega) (by omega) (by omega)) (hI 9 r (by omega) (by omega) (by omega) (by omega)), ⟨?_, fun j hj => absurd hj (Nat.not_lt_zero _)⟩, hR0.cK.kp (hI 13 0 (by omega) (by omega) (by omega) (by omega)) (hI 14 0 (by omega) (by omega) (by omega) (by omega)), fun t ht => (hR0.cP t ht).kp (hI 16 t (by omega) (by omega) (by omega) (by omega)) ?_, hw9⟩, fun k hk => ⟨funext fun i => (hI k i (by omega) (by omega) (by omega) (by omega)), ?_, ?_⟩⟩
      · rw [← hR0.cH, ← hk1 0 0 (by omega)]; simp [hg_u3]
      · rw [show nI (0, (gX G).2).1 = 0 from rfl, ← h101]; simp [hg_u3]
      · funext j; simp [hg_z3]
      · funext i j; simp only [hg_z3]; rw [if_neg (by omega), if_neg (by omega)]
      · funext i j; exact (hg_u3k (by omega)).trans (hRe k i j (by omega))
  · replace h6 := Decidable.not_not.mp h6
    have hT6 : gT G = 6 := (nI_eq (by omega) (by decide)).mp (show nI (gT G) = nI 6 from h6)
    refine hg_bipush (v := (-4)) d_D_town_9 (by decide) ?_
    refine hg_ireturn d_D_town_11 rfl rfl ?_
    have hz : so_town G = (-4, G) := if_pos hT6
    rw [hz]
    exact ⟨rfl, I, Lg, Rf, X, rfl, hR0, hg_kp.rf⟩

end M22
