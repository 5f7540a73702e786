/-! a TOWN is made -/
section M21
variable {l : Launch} {E : hg_E} {d T : Nat}
variable {I : Nat → Nat → Nat → Int32} {Lg : Nat → Nat → Nat → Int64} {Rf : Nat → Nat → Nat → Option (Nat × Nat)} {X : Nat × (Nat → Nat) × (Nat → Nat → Nat)}
variable {n : Nat} {L : Nat → Int32} {I1 I2 I' : Nat → Nat → Nat → Int32}
theorem m_O_init {t w : Nat} {x : Int32} (ht : t < X.2.1 19) (h20 : X.2.1 20 = t) (hsq : hg_sq 20 t = X.1) (hcap : t < 7) (h12 : 0 < X.2.1 12) (hl12 : X.2.2 12 0 = 100) (hw : w ≤ 100) : hg_MC l E (d + 1) Y_O_init 1 100 [.ref (hg_ad E 19 t), .ref (hg_ad E 12 0), .int (nI w), .int x] (I, Lg, Rf, X) (hg_v (fun M' => ∃ I' : Nat → Nat → Nat → Int32, M' = (I', hg_z3 Lg 20 t 0, hg_u3 (hg_z3 Rf 20 t none) 19 t 0 (some (20, t)), X.1 + 1, hg_up X.2.1 20 (t + 1), hg_up2 X.2.2 20 t w) ∧ I' 19 t 1 = x ∧ (∀ j, j < w → I' 20 t j = I 12 0 j) ∧ ∀ k q, ¬ ((k = 19 ∨ k = 20) ∧ q = t) → I' k q = I k q)) := by
  refine hg_mc k_O_init (Nat.le_of_ble_eq_true rfl) ?_
  show hg_WP l E _ Y_O_init 1 100 0 [some (.ref (hg_ad E 19 t)), some (.ref (hg_ad E 12 0)), some (.int (nI w)), some (.int x)] [] (I, Lg, Rf, X) _
  refine hg_aload0 d_O_init_0 ?_
  refine hg_objInit d_O_init_1 l_O_1 ?_
  refine hg_aload0 d_O_init_4 ?_
  refine hg_iload2 d_O_init_5 ?_
  refine hg_newa (k := 20) (N := w) d_O_init_6 rfl rfl (by decide) hg_ac_int (by rw [h20]; exact hsq) (by rw [h20]; exact hcap) (nI_pos (by omega)) (nI_clamp (by omega)) (by omega) (by decide) (by omega) ?_
  rw [h20]
  refine hg_putR d_O_init_8 f_O_7 rfl rfl (Or.inr ⟨rfl, rfl, rfl⟩) (fun _ => rfl) (fun _ => rfl) (show t < hg_up X.2.1 20 (t + 1) 19 from ht) ?_
  refine hg_aload1 d_O_init_11 ?_
  refine hg_iconst (v := 0) d_O_init_12 (by decide) ?_
  refine hg_aload0 d_O_init_13 ?_
  refine hg_getR d_O_init_14 f_O_7 rfl rfl (show t < hg_up X.2.1 20 (t + 1) 19 from ht) (show hg_u3 (hg_z3 Rf 20 t none) 19 t 0 (some (20, t)) 19 t 0 = some (20, t) from by simp [hg_u3]) ?_
  refine hg_iconst (v := 0) d_O_init_17 (by decide) ?_
  refine hg_iload2 d_O_init_18 ?_
  refine hg_copyI d_O_init_19 l_O_13 rfl rfl (show 0 < hg_up X.2.1 20 (t + 1) 12 from h12) rfl rfl (show t < hg_up X.2.1 20 (t + 1) 20 from Nat.lt_succ_self t) (by decide) (by decide) (nI_pos (by omega)) (by rw [nI_clamp (by omega)]; show 0 + w ≤ X.2.2 12 0; omega) (by rw [nI_clamp (by omega)]; show 0 + w ≤ hg_up2 X.2.2 20 t w 20 t; simp [hg_up2]) (Nat.le_of_ble_eq_true rfl) ?_
  refine hg_aload0 d_O_init_22 ?_
  refine hg_iload3 d_O_init_23 ?_
  refine hg_putI d_O_init_24 f_O_19 rfl rfl (Or.inr ⟨rfl, rfl, rfl⟩) rfl rfl (show t < hg_up X.2.1 20 (t + 1) 19 from ht) ?_
  refine hg_return d_O_init_27 rfl ?_
  refine ⟨_, rfl, ?_, ?_, fun k q hn => ?_⟩
  · simp [hg_u3]
  · intro j hj; simp [hg_u3, hg_cp, nI_clamp (show w < 2 ^ 31 by omega)]; rw [if_pos hj]; simp [hg_z3]
  · funext j; simp only [hg_u3, hg_cp, hg_z3]; rw [if_neg (by omega), if_neg (by omega), if_neg (by omega)]

abbrev ps_g0 : (Nat → Int32) → Int32 := fun _ => 0
theorem ps_Q.join {w1 : Nat} {c : ps_C} {v3 : Int32} {c2 : ps_C} {I3 : Nat → Nat → Nat → Int32} (hI1 : hg_fd I1 I) (h1 : w1 ≤ c.2.1) (hev : ∀ f, hc_ev (I1 12 0) f (0, 0) 0 w1 = (c.2.2.1 (hs_N f), 0)) (hq : ps_Q n w1 (c.2.1 + 1) c.2.2.1 c2 (hg_u3 I1 10 0 2 (nI (c.2.1 + 1))) I3 v3) : ps_Q n 0 0 ps_g0 c2 I I3 v3 := by
  obtain ⟨g1, g2, g3, g4, g5, g6, w4, g7, g8, g9, g10⟩ := hq
  refine ⟨g1, g2, g3.tr (hI1.u (by decide)), fun j hj => absurd hj (Nat.not_lt_zero _), g5, ⟨Nat.zero_le _, g6.2⟩, w4, Nat.zero_le _, g8, g9, fun z => ?_⟩
  obtain ⟨a1, a2⟩ := g10 z
  refine ⟨by omega, fun f => ?_⟩
  have e : hc_ev (I3 12 0) f (0, 0) 0 w1 = (c.2.2.1 (hs_N f), 0) := by
    rw [← hev f]
    exact hc_ev_cg f w1 _ 0 (fun j h1 h2 => (g4 j (by omega)).trans (by simp [hg_u3]))
  rw [show w4 - 0 = w1 + (w4 - w1) by omega, hc_ev_add]
  show hc_ev (I3 12 0) f (hc_ev (I3 12 0) f (0, 0) 0 w1) (0 + w1) (w4 - w1) = _
  rw [e, Nat.zero_add]
  exact a2 f
theorem m_R_und_end (hX : hg_XS T X) (hR : hg_SR T Rf) (hx : ps_X n L I) (hT : T < 6) (v : Int32) (a2 : Option Value) (hq : ps_Q n 0 0 ps_g0 (ps_tw n L) I I1 v) : hg_WP l E (d + 21) Y_R_understand 2 200 53 [some (.ref (hg_ad E 10 0)), some (.int v), a2] [] (I1, Lg, Rf, X) (hg_r E (fun q M' => ∃ I' : Nat → Nat → Nat → Int32, (∀ k i, ¬ (k = 10 ∨ k = 12 ∨ ((k = 19 ∨ k = 20) ∧ i = T + 1)) → I' k i = I k i) ∧ I' 10 0 1 = 0 ∧ I' 10 0 2 = nI (ps_tw n L).2.1 ∧ (ps_tw n L).2.1 ≤ n ∧ ((q = none ∧ ¬ ((ps_tw n L).1 = true ∧ (ps_tw n L).2.1 = n) ∧ (∀ k, k ≠ 10 → k ≠ 12 → I' k = I k) ∧ M' = (I', Lg, Rf, X)) ∨ (q = some (19, T + 1) ∧ ((ps_tw n L).1 = true ∧ (ps_tw n L).2.1 = n) ∧ I' 19 (T + 1) 1 = (ps_tw n L).2.2.2 ∧ ∃ w, w ≤ 100 ∧ (∀ f, hc_fear (I' 20 (T + 1)) w f = (ps_tw n L).2.2.1 (hs_N f)) ∧ M' = (I', hg_z3 (hg_z3 Lg 19 (T + 1) 0) 20 (T + 1) 0, hg_u3 (hg_z3 (hg_z3 Rf 19 (T + 1) none) 20 (T + 1) none) 19 (T + 1) 0 (some (20, T + 1)), X.1 + 2, hg_up (hg_up X.2.1 19 (T + 2)) 20 (T + 2), hg_up2 X.2.2 20 (T + 1) w))))) := by
  have hn100 := hx.2.2.1
  obtain ⟨g1, g2, g3, g4, g5, g6, w4, g7, g8, g9, g10⟩ := hq
  have hx1 := hx.fd g3
  by_cases hok : (ps_tw n L).1 = true
  · rw [if_pos hok] at g1
    subst g1
    refine hg_iload1 d_R_understand_53 ?_
    refine hg_if_eq (tgt := 72) d_R_understand_54 (by decide) (fun h_1 => absurd h_1 (by decide)) (fun h_1 => ?_)
    refine hg_aload0 d_R_understand_57 ?_
    refine hg_getI d_R_understand_58 f_R_23 rfl rfl (hX.lt (n := 1) ⟨by decide, by decide⟩ rfl (by omega)) ?_
    refine hg_eq1 (y := nI (ps_tw n L).2.1) (g2) ?_
    refine hg_aload0 d_R_understand_61 ?_
    refine hg_getI d_R_understand_62 f_R_19 rfl rfl (hX.lt (n := 1) ⟨by decide, by decide⟩ rfl (by omega)) ?_
    refine hg_eq1 (y := nI n) (hx1.1) ?_
    refine hg_icmp_ne (tgt := 72) d_R_understand_65 (by decide) (fun hne => ?_) (fun hne => ?_)
    · refine hg_iconst (v := 0) d_R_understand_72 (by decide) ?_
      refine hg_istore1 d_R_understand_73 rfl ?_
      refine hg_aload0 d_R_understand_74 ?_
      refine hg_iconst (v := 0) d_R_understand_75 (by decide) ?_
      refine hg_putI d_R_understand_76 f_R_19 rfl rfl (Or.inl rfl) rfl rfl (hX.lt (n := 1) ⟨by decide, by decide⟩ rfl (by omega)) ?_
      refine hg_iload1 d_R_understand_79 ?_
      refine hg_if_eq (tgt := 105) d_R_understand_80 (by decide) (fun h_2 => ?_) (fun h_2 => absurd (by decide) h_2)
      refine hg_null d_R_understand_105 ?_
      refine hg_areturnN d_R_understand_106 rfl (Or.inl ⟨_, rfl⟩) ?_
      refine ⟨_, fun k i hn => ?_, hg_u3s _ _ _ _ _, by rw [← g2]; simp [hg_u3], g6.2, Or.inl ⟨rfl, fun z => hne (by rw [z.2]), fun k a b => ?_, rfl⟩⟩
      · rw [← congrFun (g3.1 k (by omega) (by omega)) i]; funext j; exact hg_u3k (fun z => hn (Or.inl z.1))
      · rw [← g3.1 k a b]; funext i j; exact hg_u3k (fun z => a z.1)
    · replace hne := Decidable.not_not.mp hne
      refine hg_iconst (v := 1) d_R_understand_68 (by decide) ?_
      refine hg_goto (tgt := 73) d_R_understand_69 (by decide) ?_
      refine hg_istore1 d_R_understand_73 rfl ?_
      refine hg_aload0 d_R_understand_74 ?_
      refine hg_iconst (v := 0) d_R_understand_75 (by decide) ?_
      refine hg_putI d_R_understand_76 f_R_19 rfl rfl (Or.inl rfl) rfl rfl (hX.lt (n := 1) ⟨by decide, by decide⟩ rfl (by omega)) ?_
      refine hg_iload1 d_R_understand_79 ?_
      refine hg_if_eq (tgt := 105) d_R_understand_80 (by decide) (fun h_3 => absurd h_3 (by decide)) (fun h_3 => ?_)
      refine hg_new (k := 19) d_R_understand_83 n_R_40 rfl (by rw [hX.2.2.1, hX.1]; show (if T + 1 = 0 then 26 else 118 + 2 * (T + 1)) = _; rw [if_neg (by omega)]; omega) (by rw [hX.2.2.1]; show T + 1 < 7; omega) (by decide) (by decide) ?_
      rw [show X.2.1 19 = T + 1 from hX.2.2.1]
      refine hg_dup d_R_understand_86 rfl ?_
      refine hg_aload0 d_R_understand_87 ?_
      refine hg_getR d_R_understand_88 f_R_15 rfl rfl (show 0 < hg_up X.2.1 19 (T + 1 + 1) 10 from hX.lt (n := 1) ⟨by decide, by decide⟩ rfl (by omega)) (show hg_z3 Rf 19 (T + 1) none 10 0 3 = some (12, 0) from hR.r3) ?_
      refine hg_aload0 d_R_understand_91 ?_
      refine hg_getI d_R_understand_92 f_R_26 rfl rfl (show 0 < hg_up X.2.1 19 (T + 1 + 1) 10 from hX.lt (n := 1) ⟨by decide, by decide⟩ rfl (by omega)) ?_
      refine hg_eq1 (y := nI w4) (by simp [hg_z3, hg_u3, g9]) ?_
      refine hg_aload0 d_R_understand_95 ?_
      refine hg_getI d_R_understand_96 f_R_29 rfl rfl (show 0 < hg_up X.2.1 19 (T + 1 + 1) 10 from hX.lt (n := 1) ⟨by decide, by decide⟩ rfl (by omega)) ?_
      refine hg_eq1 (y := (ps_tw n L).2.2.2) (by simp [hg_z3, hg_u3, g5]) ?_
      refine hg_callI (As := [.ref (hg_ad E 12 0), .int (nI w4), .int (ps_tw n L).2.2.2]) (rest := [.ref (hg_ad E 19 (T + 1))]) d_R_understand_99 l_R_42 rfl (Nat.le_of_ble_eq_true rfl) (mc' := 1) (ms' := 100) (by decide) (m_O_init (t := T + 1) (w := w4) (x := (ps_tw n L).2.2.2) (by show T + 1 < hg_up X.2.1 19 (T + 1 + 1) 19; simp [hg_up]) (by show hg_up X.2.1 19 (T + 1 + 1) 20 = T + 1; simp [hg_up]; exact hX.2.2.2.1) (by show (if T + 1 = 0 then 28 else 119 + 2 * (T + 1)) = X.1 + 1; rw [if_neg (by omega), hX.1]; omega) (by omega) (hX.lt (n := 1) ⟨by decide, by decide⟩ rfl (by omega)) (hX.2.2.2.2 12 0 (by decide)) g8) rfl ?_
      rintro _ _ ⟨rfl, I5, rfl, k1, k2, k3⟩
      show hg_WP l E _ Y_R_understand _ _ 102 _ [.ref (hg_ad E 19 (T + 1))] _ _
      refine hg_goto (tgt := 106) d_R_understand_102 (by decide) ?_
      refine hg_areturn d_R_understand_106 rfl (Or.inl ⟨_, rfl⟩) ?_
      have hpn : (ps_tw n L).2.1 = n := (nI_eq (by omega) (by omega)).mp hne
      have h5 : ∀ k i, ¬ ((k = 19 ∨ k = 20) ∧ i = T + 1) → I5 k i = hg_u3 I1 10 0 1 0 k i := fun k i hn => (k3 k i hn).trans (by funext j; simp only [hg_z3]; rw [if_neg (by omega)])
      refine ⟨I5, fun k i hn => ?_, ?_, ?_, g6.2, Or.inr ⟨rfl, ⟨hok, hpn⟩, k1, w4, g8, fun f => ?_, rfl⟩⟩
      · rw [h5 k i (by omega), ← congrFun (g3.1 k (by omega) (by omega)) i]; funext j; exact hg_u3k (fun z => hn (Or.inl z.1))
      · rw [h5 10 0 (by omega)]; exact hg_u3s _ _ _ _ _
      · rw [h5 10 0 (by omega), ← g2]; simp [hg_u3]
      · unfold hc_fear; rw [hc_ev_cg (cd := I1 12 0) f w4 _ 0 (fun j _ h2 => (k2 j (by omega)).trans (by simp [hg_z3, hg_u3]))]
        have := (g10 hok).2 f
        rw [Nat.sub_zero] at this
        rw [show hc_ev (I1 12 0) f (0, 0) 0 w4 = _ from this]
  · rw [if_neg hok] at g1
    subst g1
    refine hg_iload1 d_R_understand_53 ?_
    refine hg_if_eq (tgt := 72) d_R_understand_54 (by decide) (fun h_4 => ?_) (fun h_4 => absurd (by decide) h_4)
    refine hg_iconst (v := 0) d_R_understand_72 (by decide) ?_
    refine hg_istore1 d_R_understand_73 rfl ?_
    refine hg_aload0 d_R_understand_74 ?_
    refine hg_iconst (v := 0) d_R_understand_75 (by decide) ?_
    refine hg_putI d_R_understand_76 f_R_19 rfl rfl (Or.inl rfl) rfl rfl (hX.lt (n := 1) ⟨by decide, by decide⟩ rfl (by omega)) ?_
    refine hg_iload1 d_R_understand_79 ?_
    refine hg_if_eq (tgt := 105) d_R_understand_80 (by decide) (fun h_5 => ?_) (fun h_5 => absurd (by decide) h_5)
    refine hg_null d_R_understand_105 ?_
    refine hg_areturnN d_R_understand_106 rfl (Or.inl ⟨_, rfl⟩) ?_
    refine ⟨_, fun k i hn => ?_, hg_u3s _ _ _ _ _, by rw [← g2]; simp [hg_u3], g6.2, Or.inl ⟨rfl, fun z => hok z.1, fun k a b => ?_, rfl⟩⟩
    · rw [← congrFun (g3.1 k (by omega) (by omega)) i]; funext j; exact hg_u3k (fun z => hn (Or.inl z.1))
    · rw [← g3.1 k a b]; funext i j; exact hg_u3k (fun z => a z.1)
theorem m_R_und_loop (hX : hg_XS T X) (hR : hg_SR T Rf) (hx : ps_X n L I) (hT : T < 6) : ∀ (k i : Nat) (c : ps_C) (I1 : Nat → Nat → Nat → Int32) (v : Int32), i + k = 10 → ps_Q n 0 0 ps_g0 c I I1 v → ps_cs n L k c = ps_tw n L → hg_WP l E (d + 21) Y_R_understand 2 200 23 [some (.ref (hg_ad E 10 0)), some (.int v), some (.int (nI i))] [] (I1, Lg, Rf, X) (hg_r E (fun q M' => ∃ I' : Nat → Nat → Nat → Int32, (∀ k i, ¬ (k = 10 ∨ k = 12 ∨ ((k = 19 ∨ k = 20) ∧ i = T + 1)) → I' k i = I k i) ∧ I' 10 0 1 = 0 ∧ I' 10 0 2 = nI (ps_tw n L).2.1 ∧ (ps_tw n L).2.1 ≤ n ∧ ((q = none ∧ ¬ ((ps_tw n L).1 = true ∧ (ps_tw n L).2.1 = n) ∧ (∀ k, k ≠ 10 → k ≠ 12 → I' k = I k) ∧ M' = (I', Lg, Rf, X)) ∨ (q = some (19, T + 1) ∧ ((ps_tw n L).1 = true ∧ (ps_tw n L).2.1 = n) ∧ I' 19 (T + 1) 1 = (ps_tw n L).2.2.2 ∧ ∃ w, w ≤ 100 ∧ (∀ f, hc_fear (I' 20 (T + 1)) w f = (ps_tw n L).2.2.1 (hs_N f)) ∧ M' = (I', hg_z3 (hg_z3 Lg 19 (T + 1) 0) 20 (T + 1) 0, hg_u3 (hg_z3 (hg_z3 Rf 19 (T + 1) none) 20 (T + 1) none) 19 (T + 1) 0 (some (20, T + 1)), X.1 + 2, hg_up (hg_up X.2.1 19 (T + 2)) 20 (T + 2), hg_up2 X.2.2 20 (T + 1) w))))) := by
  have hn100 := hx.2.2.1
  intro k
  induction k with
  | zero =>
    intro i c I1 v hik hq he
    obtain rfl : i = 10 := by omega
    obtain rfl : c = ps_tw n L := he
    refine hg_iload2 d_R_understand_23 ?_
    refine hg_bipush (v := 10) d_R_understand_24 (by decide) ?_
    refine hg_icmp_ge (tgt := 53) d_R_understand_26 (by decide) (fun h_1 => ?_) (fun h_1 => absurd (Int32.le_refl (nI 10)) h_1)
    exact m_R_und_end hX hR hx hT v _ hq
  | succ k ih =>
    intro i c I1 v hik hq he
    by_cases hc1 : c.1 = true
    · obtain ⟨g1, g2, g3, g4, g5, g6, w4, g7, g8, g9, g10⟩ := id hq
      rw [if_pos hc1] at g1
      subst g1
      have hx1 := hx.fd g3
      obtain ⟨a1, a2⟩ := g10 hc1
      refine hg_iload2 d_R_understand_23 ?_
      refine hg_bipush (v := 10) d_R_understand_24 (by decide) ?_
      refine hg_icmp_ge (tgt := 53) d_R_understand_26 (by decide) (fun h_2 => absurd h_2 (nI_ge (b := 10) (by omega) (by decide))) (fun h_2 => ?_)
      refine hg_iload1 d_R_understand_29 ?_
      refine hg_if_eq (tgt := 53) d_R_understand_30 (by decide) (fun h_3 => absurd h_3 (by decide)) (fun h_3 => ?_)
      refine hg_aload0 d_R_understand_33 ?_
      refine hg_bipush (v := 59) d_R_understand_34 (by decide) ?_
      refine hg_cVi d_R_understand_36 l_R_36 rfl rfl (hX.lt (n := 1) ⟨by decide, by decide⟩ rfl (by omega)) rfl (Nat.le_of_ble_eq_true rfl) (m_R_sign (n := n) (L := L) (p := c.2.1) hX hR hx1 g2 g6.2) rfl ?_
      rintro _ _ (hsg | hsg)
      · obtain ⟨hsg, rfl, rfl⟩ := hsg
        refine hg_if_eq (tgt := 53) d_R_understand_39 (by decide) (fun h_4 => absurd h_4 (by decide)) (fun h_4 => ?_)
        refine hg_aload0 d_R_understand_42 ?_
        have hlt := (ps_sg_t hsg).1
        refine hg_cVi d_R_understand_43 l_R_32 rfl rfl (hX.lt (n := 1) ⟨by decide, by decide⟩ rfl (by omega)) rfl (Nat.le_of_ble_eq_true rfl) (m_R_clause (p := c.2.1 + 1) (w := w4) (g := c.2.2.1) (i := c.2.2.2) hX hR (hx1.fd (hg_fd.rf.u (by decide))) (by simp [hg_u3]) (by omega) (by simp [hg_u3, g9]) (by omega) (by simp [hg_u3, g5])) rfl ?_
        rintro v3 _ ⟨I3, rfl, hq3⟩
        refine hg_istore1 d_R_understand_46 rfl ?_
        refine hg_iinc2 (v := nI (i + 1)) d_R_understand_47 rfl (nI_add _ _) ?_
        refine hg_goto (tgt := 23) d_R_understand_50 (by decide) ?_
        exact ih (i + 1) _ I3 v3 (by omega) (ps_Q.join g3 (by omega) (fun f => by have := a2 f; rwa [Nat.sub_zero] at this) hq3) (by rw [← he]; exact (if_pos ⟨hc1, hsg⟩).symm)
      · obtain ⟨hsg, rfl, rfl⟩ := hsg
        refine hg_if_eq (tgt := 53) d_R_understand_39 (by decide) (fun h_5 => ?_) (fun h_5 => absurd (by decide) h_5)
        have e : ps_tw n L = c := by rw [← he]; exact if_neg (fun z => by rw [hsg] at z; exact absurd z.2 (by decide))
        exact m_R_und_end hX hR hx hT _ _ (by rw [e]; exact hq)
    · have g1 := hq.1
      rw [if_neg hc1] at g1
      subst g1
      refine hg_iload2 d_R_understand_23 ?_
      refine hg_bipush (v := 10) d_R_understand_24 (by decide) ?_
      refine hg_icmp_ge (tgt := 53) d_R_understand_26 (by decide) (fun h_6 => absurd h_6 (nI_ge (b := 10) (by omega) (by decide))) (fun h_6 => ?_)
      refine hg_iload1 d_R_understand_29 ?_
      refine hg_if_eq (tgt := 53) d_R_understand_30 (by decide) (fun h_7 => ?_) (fun h_7 => absurd (by decide) h_7)
      have e : ps_tw n L = c := by rw [← he]; exact if_neg (fun z => hc1 z.1)
      exact m_R_und_end hX hR hx hT _ _ (by rw [e]; exact hq)
theorem m_R_understand (hX : hg_XS T X) (hR : hg_SR T Rf) (hx : ps_X n L I) (hT : T < 6) : hg_MC l E (d + 22) Y_R_understand 2 200 [.ref (hg_ad E 10 0)] (I, Lg, Rf, X) (hg_r E (fun q M' => ∃ I' : Nat → Nat → Nat → Int32, (∀ k i, ¬ (k = 10 ∨ k = 12 ∨ ((k = 19 ∨ k = 20) ∧ i = T + 1)) → I' k i = I k i) ∧ I' 10 0 1 = 0 ∧ I' 10 0 2 = nI (ps_tw n L).2.1 ∧ (ps_tw n L).2.1 ≤ n ∧ ((q = none ∧ ¬ ((ps_tw n L).1 = true ∧ (ps_tw n L).2.1 = n) ∧ (∀ k, k ≠ 10 → k ≠ 12 → I' k = I k) ∧ M' = (I', Lg, Rf, X)) ∨ (q = some (19, T + 1) ∧ ((ps_tw n L).1 = true ∧ (ps_tw n L).2.1 = n) ∧ I' 19 (T + 1) 1 = (ps_tw n L).2.2.2 ∧ ∃ w, w ≤ 100 ∧ (∀ f, hc_fear (I' 20 (T + 1)) w f = (ps_tw n L).2.2.1 (hs_N f)) ∧ M' = (I', hg_z3 (hg_z3 Lg 19 (T + 1) 0) 20 (T + 1) 0, hg_u3 (hg_z3 (hg_z3 Rf 19 (T + 1) none) 20 (T + 1) none) 19 (T + 1) 0 (some (20, T + 1)), X.1 + 2, hg_up (hg_up X.2.1 19 (T + 2)) 20 (T + 2), hg_up2 X.2.2 20 (T + 1) w))))) := by
  refine hg_mc k_R_understand (Nat.le_of_ble_eq_true rfl) ?_
  show hg_WP l E _ Y_R_understand 2 200 0 [some (.ref (hg_ad E 10 0)), none, none] [] (I, Lg, Rf, X) _
  refine hg_aload0 d_R_understand_0 ?_
  refine hg_iconst (v := 0) d_R_understand_1 (by decide) ?_
  refine hg_putI d_R_understand_2 f_R_23 rfl rfl (Or.inl rfl) rfl rfl (hX.lt (n := 1) ⟨by decide, by decide⟩ rfl (by omega)) ?_
  refine hg_aload0 d_R_understand_5 ?_
  refine hg_iconst (v := 0) d_R_understand_6 (by decide) ?_
  refine hg_putI d_R_understand_7 f_R_26 rfl rfl (Or.inl rfl) rfl rfl (hX.lt (n := 1) ⟨by decide, by decide⟩ rfl (by omega)) ?_
  refine hg_aload0 d_R_understand_10 ?_
  refine hg_bipush (v := 60) d_R_understand_11 (by decide) ?_
  refine hg_putI d_R_understand_13 f_R_29 rfl rfl (Or.inl rfl) rfl rfl (hX.lt (n := 1) ⟨by decide, by decide⟩ rfl (by omega)) ?_
  refine hg_aload0 d_R_understand_16 ?_
  have hf0 : hg_fd (hg_u3 (hg_u3 (hg_u3 I 10 0 2 0) 10 0 4 0) 10 0 6 60) I := ((hg_fd.rf.u (by decide)).u (by decide)).u (by decide)
  refine hg_cVi d_R_understand_17 l_R_32 rfl rfl (hX.lt (n := 1) ⟨by decide, by decide⟩ rfl (by omega)) rfl (Nat.le_of_ble_eq_true rfl) (m_R_clause (p := 0) (w := 0) (g := ps_g0) (i := 60) hX hR (hx.fd hf0) (by simp [hg_u3, nI]) (Nat.zero_le _) (by simp [hg_u3, nI]) (Nat.le_refl _) (by simp [hg_u3])) rfl ?_
  rintro v _ ⟨I2, rfl, hq2⟩
  refine hg_istore1 d_R_understand_20 rfl ?_
  refine hg_iconst (v := 1) d_R_understand_21 (by decide) ?_
  refine hg_istore2 d_R_understand_22 rfl ?_
  obtain ⟨b1, b2, b3, b4, b5, b6, b7⟩ := hq2
  exact m_R_und_loop hX hR hx hT 9 1 _ I2 v rfl ⟨b1, b2, b3.tr hf0, fun j hj => absurd hj (Nat.not_lt_zero _), b5, b6, b7⟩ rfl

end M21
