/-! Scene: places; a HOUSE begins, becomes another; a scene becomes another -/
section M5
variable {l : Launch} {E : hg_E} {d T : Nat}
variable {I : Nat → Nat → Nat → Int32} {Lg : Nat → Nat → Nat → Int64} {Rf : Nat → Nat → Nat → Option (Nat × Nat)} {X : Nat × (Nat → Nat) × (Nat → Nat → Nat)}

theorem m_S_placeOf_loop {σ : hs_S} {s j : Nat} (hX : hg_XS T X) (hR : hg_SR T Rf) (hs : s < 3) (hC : hs_C s σ I Rf) (hO : hs_ok T σ) (hj : j < hs_n σ) : ∀ (k i : Nat), i + k = j → hg_WP l E (d) Y_S_placeOf 0 0 2 [some (.ref (hg_ad E 1 s)), some (.int (nI (hs_st σ j))), some (.int (nI i))] [] (I, Lg, Rf, X) (hg_i (fun v M' => v = nI j ∧ M' = (I, Lg, Rf, X))) := by
  intro k
  induction k with
  | zero =>
    intro i hik
    obtain rfl : j = i := by omega
    have hn6 := hO.1
    refine hg_iload2 d_S_placeOf_2 ?_
    refine hg_aload0 d_S_placeOf_3 ?_
    refine hg_getI d_S_placeOf_4 f_S_29 rfl rfl (hX.lt (n := 3) ⟨by decide, by decide⟩ rfl (by omega)) ?_
    refine hg_eq1 (y := nI (hs_n σ)) (hC.1) ?_
    refine hg_icmp_ge (tgt := 28) d_S_placeOf_7 (by decide) (fun h_1 => absurd h_1 (nI_ge (by omega) (by omega))) (fun h_1 => ?_)
    refine hg_aload0 d_S_placeOf_10 ?_
    refine hg_getR d_S_placeOf_11 f_S_17 rfl rfl (hX.lt (n := 3) ⟨by decide, by decide⟩ rfl (by omega)) (hR.s1 (by omega)) ?_
    refine hg_iload2 d_S_placeOf_14 ?_
    refine hg_iald_n (j := j) d_S_placeOf_15 rfl rfl (hX.lt (n := 3) ⟨by decide, by decide⟩ rfl (by omega)) (hX.jn (n := 6) (by decide) rfl (by omega)) ?_
    refine hg_eq1 (y := nI (hs_st σ j)) (hC.2.2.2.2.2.1 _ (by omega)) ?_
    refine hg_iload1 d_S_placeOf_16 ?_
    refine hg_icmp_ne (tgt := 22) d_S_placeOf_17 (by decide) (fun h_2 => absurd h_2 (fun q => q rfl)) (fun h_2 => ?_)
    refine hg_iload2 d_S_placeOf_20 ?_
    refine hg_ireturn d_S_placeOf_21 rfl rfl ?_
    exact ⟨rfl, rfl⟩
  | succ k ih =>
    intro i hik
    have hn6 := hO.1
    have hsi := hO.2.2.1 i (by omega)
    have hsj := hO.2.2.1 j hj
    refine hg_iload2 d_S_placeOf_2 ?_
    refine hg_aload0 d_S_placeOf_3 ?_
    refine hg_getI d_S_placeOf_4 f_S_29 rfl rfl (hX.lt (n := 3) ⟨by decide, by decide⟩ rfl (by omega)) ?_
    refine hg_eq1 (y := nI (hs_n σ)) (hC.1) ?_
    refine hg_icmp_ge (tgt := 28) d_S_placeOf_7 (by decide) (fun h_3 => absurd h_3 (nI_ge (by omega) (by omega))) (fun h_3 => ?_)
    refine hg_aload0 d_S_placeOf_10 ?_
    refine hg_getR d_S_placeOf_11 f_S_17 rfl rfl (hX.lt (n := 3) ⟨by decide, by decide⟩ rfl (by omega)) (hR.s1 (by omega)) ?_
    refine hg_iload2 d_S_placeOf_14 ?_
    refine hg_iald_n (j := i) d_S_placeOf_15 rfl rfl (hX.lt (n := 3) ⟨by decide, by decide⟩ rfl (by omega)) (hX.jn (n := 6) (by decide) rfl (by omega)) ?_
    refine hg_eq1 (y := nI (hs_st σ i)) (hC.2.2.2.2.2.1 _ (by omega)) ?_
    refine hg_iload1 d_S_placeOf_16 ?_
    refine hg_icmp_ne (tgt := 22) d_S_placeOf_17 (by decide) (fun h_4 => ?_) (fun h_4 => absurd (fun e => by have := hO.2.2.2.1 i j (by omega) hj ((nI_eq (show hs_st σ i < 2 ^ 31 by omega) (show hs_st σ j < 2 ^ 31 by omega)).mp e); omega) h_4)
    refine hg_iinc2 (v := nI (i + 1)) d_S_placeOf_22 rfl (nI_add _ _) ?_
    refine hg_goto (tgt := 2) d_S_placeOf_25 (by decide) ?_
    exact ih (i + 1) (by omega)
theorem m_S_placeOf {σ : hs_S} {s j : Nat} (hX : hg_XS T X) (hR : hg_SR T Rf) (hs : s < 3) (hC : hs_C s σ I Rf) (hO : hs_ok T σ) (hj : j < hs_n σ) : hg_MC l E (d + 1) Y_S_placeOf 0 0 [.ref (hg_ad E 1 s), .int (nI (hs_st σ j))] (I, Lg, Rf, X) (hg_i (fun v M' => v = nI j ∧ M' = (I, Lg, Rf, X))) := by
  refine hg_mc k_S_placeOf (Nat.le_of_ble_eq_true rfl) ?_
  show hg_WP l E _ Y_S_placeOf 0 0 0 [some (.ref (hg_ad E 1 s)), some (.int (nI (hs_st σ j))), none] [] (I, Lg, Rf, X) _
  refine hg_iconst (v := 0) d_S_placeOf_0 (by decide) ?_
  refine hg_istore2 d_S_placeOf_1 rfl ?_
  exact m_S_placeOf_loop hX hR hs hC hO hj _ 0 (Nat.zero_add _)

theorem m_S_change {σ : hs_S} {s i j : Nat} (hX : hg_XS T X) (hR : hg_SR T Rf) (hs : s < 3) (hC : hs_C s σ I Rf) (hO : hs_ok T σ) (hi : i < hs_n σ) (hj : j < hs_n σ) : hg_MC l E (d + 2) Y_S_change 0 0 [.ref (hg_ad E 1 s), .int (nI (hs_st σ i)), .int (nI (hs_st σ j))] (I, Lg, Rf, X) (hg_v (fun M' => ∃ I' : Nat → Nat → Nat → Int32, M' = (I', Lg, Rf, X) ∧ hs_C s (hs_sw2 σ i j) I' Rf ∧ hg_fr s I' I)) := by
  have hn6 := hO.1
  refine hg_mc k_S_change (Nat.le_of_ble_eq_true rfl) ?_
  show hg_WP l E _ Y_S_change 0 0 0 [some (.ref (hg_ad E 1 s)), some (.int (nI (hs_st σ i))), some (.int (nI (hs_st σ j))), none, none] [] (I, Lg, Rf, X) _
  refine hg_aload0 d_S_change_0 ?_
  refine hg_iload1 d_S_change_1 ?_
  refine hg_cVi d_S_change_2 l_S_57 rfl rfl (hX.lt (n := 3) ⟨by decide, by decide⟩ rfl (by omega)) rfl (Nat.le_of_ble_eq_true rfl) (m_S_placeOf hX hR hs hC hO hi) rfl ?_
  rintro _ _ ⟨rfl, rfl⟩
  refine hg_istore3 d_S_change_5 rfl ?_
  refine hg_aload0 d_S_change_6 ?_
  refine hg_iload2 d_S_change_7 ?_
  refine hg_cVi d_S_change_8 l_S_57 rfl rfl (hX.lt (n := 3) ⟨by decide, by decide⟩ rfl (by omega)) rfl (Nat.le_of_ble_eq_true rfl) (m_S_placeOf hX hR hs hC hO hj) rfl ?_
  rintro _ _ ⟨rfl, rfl⟩
  refine hg_istore4 d_S_change_11 rfl ?_
  refine hg_iload3 d_S_change_13 ?_
  refine hg_if_lt (tgt := 22) d_S_change_14 (by decide) (fun h_1 => absurd h_1 (nI_pos (by omega))) (fun h_1 => ?_)
  refine hg_iload4 d_S_change_17 ?_
  refine hg_if_ge (tgt := 23) d_S_change_19 (by decide) (fun h_2 => ?_) (fun h_2 => absurd (nI_pos' (by omega)) h_2)
  refine hg_aload0 d_S_change_23 ?_
  refine hg_getR d_S_change_24 f_S_17 rfl rfl (hX.lt (n := 3) ⟨by decide, by decide⟩ rfl (by omega)) (hR.s1 (by omega)) ?_
  refine hg_iload3 d_S_change_27 ?_
  refine hg_iload2 d_S_change_28 ?_
  refine hg_iast_n (j := i) d_S_change_29 rfl rfl (hX.lt (n := 3) ⟨by decide, by decide⟩ rfl (by omega)) (hX.jn (n := 6) (by decide) rfl (by omega)) ?_
  refine hg_aload0 d_S_change_30 ?_
  refine hg_getR d_S_change_31 f_S_17 rfl rfl (hX.lt (n := 3) ⟨by decide, by decide⟩ rfl (by omega)) (hR.s1 (by omega)) ?_
  refine hg_iload4 d_S_change_34 ?_
  refine hg_iload1 d_S_change_36 ?_
  refine hg_iast_n (j := j) d_S_change_37 rfl rfl (hX.lt (n := 3) ⟨by decide, by decide⟩ rfl (by omega)) (hX.jn (n := 6) (by decide) rfl (by omega)) ?_
  refine hg_return d_S_change_38 rfl ?_
  exact ⟨_, rfl, (hC.sst (p := i) (x := hs_st σ j)).sst (p := j) (x := hs_st σ i), (hg_fr.rf.u3 hg_tch5).u3 hg_tch5⟩

theorem m_H_begin_loop {i : Nat} {k v b : Int32} (hX : hg_XS T X) (hR : hg_SR T Rf) (hi : i < 18) : ∀ (m j : Nat) (I1 : Nat → Nat → Nat → Int32), j + m = 4 → (∀ f, f < 7 → I1 3 i f = hs_nh k v b f) → (∀ j2, j2 < j → I1 4 i j2 = 0) → (∀ q r, ¬ ((q = 3 ∨ q = 4) ∧ r = i) → I1 q r = I q r) → hg_WP l E (d) Y_H_begin 0 0 38 [some (.ref (hg_ad E 3 i)), some (.int k), some (.int v), some (.int b), some (.int (nI j))] [] (I1, Lg, Rf, X) (hg_v (fun M' => ∃ I' : Nat → Nat → Nat → Int32, M' = (I', Lg, Rf, X) ∧ (∀ f, f < 7 → I' 3 i f = hs_nh k v b f) ∧ (∀ j, j < 4 → I' 4 i j = 0) ∧ ∀ q r, ¬ ((q = 3 ∨ q = 4) ∧ r = i) → I' q r = I q r)) := by
  intro m
  induction m with
  | zero =>
    intro j I1 hjm h1 h2 h3
    refine hg_iload4 d_H_begin_38 ?_
    refine hg_aload0 d_H_begin_40 ?_
    refine hg_getR d_H_begin_41 f_H_7 rfl rfl (hX.lt (n := 18) ⟨by decide, by decide⟩ rfl (by omega)) (hR.h7 (by omega)) ?_
    refine hg_alen d_H_begin_44 rfl (hX.lt (n := 18) ⟨by decide, by decide⟩ rfl (by omega)) ?_
    refine hg_eq1 (y := nI 4) (by rw [hX.2.2.2.2 _ _ (by decide)]; rfl) ?_
    refine hg_icmp_ge (tgt := 62) d_H_begin_45 (by decide) (fun h_1 => ?_) (fun h_1 => absurd (by rw [show j = 4 by omega]; exact Int32.le_refl _) h_1)
    refine hg_return d_H_begin_62 rfl ?_
    exact ⟨I1, rfl, h1, fun j2 hj2 => h2 j2 (by omega), h3⟩
  | succ m ih =>
    intro j I1 hjm h1 h2 h3
    refine hg_iload4 d_H_begin_38 ?_
    refine hg_aload0 d_H_begin_40 ?_
    refine hg_getR d_H_begin_41 f_H_7 rfl rfl (hX.lt (n := 18) ⟨by decide, by decide⟩ rfl (by omega)) (hR.h7 (by omega)) ?_
    refine hg_alen d_H_begin_44 rfl (hX.lt (n := 18) ⟨by decide, by decide⟩ rfl (by omega)) ?_
    refine hg_eq1 (y := nI 4) (by rw [hX.2.2.2.2 _ _ (by decide)]; rfl) ?_
    refine hg_icmp_ge (tgt := 62) d_H_begin_45 (by decide) (fun h_2 => absurd h_2 (nI_ge (by omega) (by omega))) (fun h_2 => ?_)
    refine hg_aload0 d_H_begin_48 ?_
    refine hg_getR d_H_begin_49 f_H_7 rfl rfl (hX.lt (n := 18) ⟨by decide, by decide⟩ rfl (by omega)) (hR.h7 (by omega)) ?_
    refine hg_iload4 d_H_begin_52 ?_
    refine hg_iconst (v := 0) d_H_begin_54 (by decide) ?_
    refine hg_iast_n (j := j) d_H_begin_55 rfl rfl (hX.lt (n := 18) ⟨by decide, by decide⟩ rfl (by omega)) (hX.jn (n := 4) (by decide) rfl (by omega)) ?_
    refine hg_iinc4 (v := nI (j + 1)) d_H_begin_56 rfl (nI_add _ _) ?_
    refine hg_goto (tgt := 38) d_H_begin_59 (by decide) ?_
    refine ih (j + 1) _ (by omega) (fun f hf => ?_) (fun j2 hj2 => ?_) (fun q r hn => ?_)
    · rw [show hg_u3 I1 4 i j 0 3 i f = I1 3 i f from hg_u3k (by omega)]; exact h1 f hf
    · by_cases e : j2 = j
      · subst e; exact hg_u3s _ _ _ _ _
      · show (if _ then _ else I1 4 i j2) = 0; rw [if_neg (fun z => e z.2.2)]; exact h2 j2 (by omega)
    · rw [← h3 q r hn]; funext x; exact hg_u3k (by omega)
theorem m_H_begin {i : Nat} {k v b : Int32} (hX : hg_XS T X) (hR : hg_SR T Rf) (hi : i < 18) : hg_MC l E (d + 1) Y_H_begin 0 0 [.ref (hg_ad E 3 i), .int k, .int v, .int b] (I, Lg, Rf, X) (hg_v (fun M' => ∃ I' : Nat → Nat → Nat → Int32, M' = (I', Lg, Rf, X) ∧ (∀ f, f < 7 → I' 3 i f = hs_nh k v b f) ∧ (∀ j, j < 4 → I' 4 i j = 0) ∧ ∀ q r, ¬ ((q = 3 ∨ q = 4) ∧ r = i) → I' q r = I q r)) := by
  refine hg_mc k_H_begin (Nat.le_of_ble_eq_true rfl) ?_
  show hg_WP l E _ Y_H_begin 0 0 0 [some (.ref (hg_ad E 3 i)), some (.int k), some (.int v), some (.int b), none] [] (I, Lg, Rf, X) _
  refine hg_aload0 d_H_begin_0 ?_
  refine hg_iload1 d_H_begin_1 ?_
  refine hg_putI d_H_begin_2 f_H_13 rfl rfl (Or.inl rfl) rfl rfl (hX.lt (n := 18) ⟨by decide, by decide⟩ rfl (by omega)) ?_
  refine hg_aload0 d_H_begin_5 ?_
  refine hg_iload2 d_H_begin_6 ?_
  refine hg_putI d_H_begin_7 f_H_17 rfl rfl (Or.inl rfl) rfl rfl (hX.lt (n := 18) ⟨by decide, by decide⟩ rfl (by omega)) ?_
  refine hg_aload0 d_H_begin_10 ?_
  refine hg_iload3 d_H_begin_11 ?_
  refine hg_putI d_H_begin_12 f_H_20 rfl rfl (Or.inl rfl) rfl rfl (hX.lt (n := 18) ⟨by decide, by decide⟩ rfl (by omega)) ?_
  refine hg_aload0 d_H_begin_15 ?_
  refine hg_iconst (v := 0) d_H_begin_16 (by decide) ?_
  refine hg_putI d_H_begin_17 f_H_23 rfl rfl (Or.inl rfl) rfl rfl (hX.lt (n := 18) ⟨by decide, by decide⟩ rfl (by omega)) ?_
  refine hg_aload0 d_H_begin_20 ?_
  refine hg_iconst (v := 0) d_H_begin_21 (by decide) ?_
  refine hg_putI d_H_begin_22 f_H_26 rfl rfl (Or.inl rfl) rfl rfl (hX.lt (n := 18) ⟨by decide, by decide⟩ rfl (by omega)) ?_
  refine hg_aload0 d_H_begin_25 ?_
  refine hg_iconst (v := 0) d_H_begin_26 (by decide) ?_
  refine hg_putI d_H_begin_27 f_H_29 rfl rfl (Or.inl rfl) rfl rfl (hX.lt (n := 18) ⟨by decide, by decide⟩ rfl (by omega)) ?_
  refine hg_aload0 d_H_begin_30 ?_
  refine hg_iconst (v := 0) d_H_begin_31 (by decide) ?_
  refine hg_putI d_H_begin_32 f_H_32 rfl rfl (Or.inl rfl) rfl rfl (hX.lt (n := 18) ⟨by decide, by decide⟩ rfl (by omega)) ?_
  refine hg_iconst (v := 0) d_H_begin_35 (by decide) ?_
  refine hg_istore4 d_H_begin_36 rfl ?_
  refine m_H_begin_loop hX hR hi _ 0 _ (Nat.zero_add _) (fun f hf => ?_) (fun j2 hj2 => absurd hj2 (Nat.not_lt_zero _)) (fun q r hn => ?_)
  · have h7 : f = 0 ∨ f = 1 ∨ f = 2 ∨ f = 3 ∨ f = 4 ∨ f = 5 ∨ f = 6 := by omega
    rcases h7 with rfl | rfl | rfl | rfl | rfl | rfl | rfl <;> simp [hg_u3, hs_nh]
  · funext x; simp only [hg_u3]; repeat rw [if_neg (by omega)]

theorem m_H_become {i i2 : Nat} (hX : hg_XS T X) (hR : hg_SR T Rf) (hi : i < 18) (hi2 : i2 < 18) (hne : i ≠ i2) (hb : I 3 i2 6 = 0 ∨ I 3 i2 6 = 1) : hg_MC l E (d + 1) Y_H_become 0 0 [.ref (hg_ad E 3 i), .ref (hg_ad E 3 i2)] (I, Lg, Rf, X) (hg_v (fun M' => ∃ I' : Nat → Nat → Nat → Int32, M' = (I', Lg, Rf, X) ∧ (∀ f, f < 7 → I' 3 i f = I 3 i2 f) ∧ (∀ j, j < 4 → I' 4 i j = I 4 i2 j) ∧ ∀ q r, ¬ ((q = 3 ∨ q = 4) ∧ r = i) → I' q r = I q r)) := by
  refine hg_mc k_H_become (Nat.le_of_ble_eq_true rfl) ?_
  show hg_WP l E _ Y_H_become 0 0 0 [some (.ref (hg_ad E 3 i)), some (.ref (hg_ad E 3 i2))] [] (I, Lg, Rf, X) _
  refine hg_aload0 d_H_become_0 ?_
  refine hg_aload1 d_H_become_1 ?_
  refine hg_getI d_H_become_2 f_H_13 rfl rfl (hX.lt (n := 18) ⟨by decide, by decide⟩ rfl (by omega)) ?_
  refine hg_putI d_H_become_5 f_H_13 rfl rfl (Or.inl rfl) rfl rfl (hX.lt (n := 18) ⟨by decide, by decide⟩ rfl (by omega)) ?_
  refine hg_aload0 d_H_become_8 ?_
  refine hg_aload1 d_H_become_9 ?_
  refine hg_getI d_H_become_10 f_H_17 rfl rfl (hX.lt (n := 18) ⟨by decide, by decide⟩ rfl (by omega)) ?_
  refine hg_eq1 (y := I 3 i2 1) (by simp [hg_u3, Ne.symm hne]) ?_
  refine hg_putI d_H_become_13 f_H_17 rfl rfl (Or.inl rfl) rfl rfl (hX.lt (n := 18) ⟨by decide, by decide⟩ rfl (by omega)) ?_
  refine hg_aload0 d_H_become_16 ?_
  refine hg_aload1 d_H_become_17 ?_
  refine hg_getI d_H_become_18 f_H_20 rfl rfl (hX.lt (n := 18) ⟨by decide, by decide⟩ rfl (by omega)) ?_
  refine hg_eq1 (y := I 3 i2 2) (by simp [hg_u3, Ne.symm hne]) ?_
  refine hg_putI d_H_become_21 f_H_20 rfl rfl (Or.inl rfl) rfl rfl (hX.lt (n := 18) ⟨by decide, by decide⟩ rfl (by omega)) ?_
  refine hg_aload0 d_H_become_24 ?_
  refine hg_aload1 d_H_become_25 ?_
  refine hg_getI d_H_become_26 f_H_23 rfl rfl (hX.lt (n := 18) ⟨by decide, by decide⟩ rfl (by omega)) ?_
  refine hg_eq1 (y := I 3 i2 3) (by simp [hg_u3, Ne.symm hne]) ?_
  refine hg_putI d_H_become_29 f_H_23 rfl rfl (Or.inl rfl) rfl rfl (hX.lt (n := 18) ⟨by decide, by decide⟩ rfl (by omega)) ?_
  refine hg_aload0 d_H_become_32 ?_
  refine hg_aload1 d_H_become_33 ?_
  refine hg_getI d_H_become_34 f_H_26 rfl rfl (hX.lt (n := 18) ⟨by decide, by decide⟩ rfl (by omega)) ?_
  refine hg_eq1 (y := I 3 i2 4) (by simp [hg_u3, Ne.symm hne]) ?_
  refine hg_putI d_H_become_37 f_H_26 rfl rfl (Or.inl rfl) rfl rfl (hX.lt (n := 18) ⟨by decide, by decide⟩ rfl (by omega)) ?_
  refine hg_aload0 d_H_become_40 ?_
  refine hg_aload1 d_H_become_41 ?_
  refine hg_getI d_H_become_42 f_H_29 rfl rfl (hX.lt (n := 18) ⟨by decide, by decide⟩ rfl (by omega)) ?_
  refine hg_eq1 (y := I 3 i2 5) (by simp [hg_u3, Ne.symm hne]) ?_
  refine hg_putI d_H_become_45 f_H_29 rfl rfl (Or.inl rfl) rfl rfl (hX.lt (n := 18) ⟨by decide, by decide⟩ rfl (by omega)) ?_
  refine hg_aload0 d_H_become_48 ?_
  refine hg_aload1 d_H_become_49 ?_
  refine hg_getI d_H_become_50 f_H_32 rfl rfl (hX.lt (n := 18) ⟨by decide, by decide⟩ rfl (by omega)) ?_
  refine hg_eq1 (y := I 3 i2 6) (by simp [hg_u3, Ne.symm hne]) ?_
  refine hg_putI d_H_become_53 f_H_32 rfl rfl (Or.inl rfl) (by rcases hb with z | z <;> rw [z] <;> rfl) (by rcases hb with z | z <;> rw [z] <;> rfl) (hX.lt (n := 18) ⟨by decide, by decide⟩ rfl (by omega)) ?_
  refine hg_aload1 d_H_become_56 ?_
  refine hg_getR d_H_become_57 f_H_7 rfl rfl (hX.lt (n := 18) ⟨by decide, by decide⟩ rfl (by omega)) (hR.h7 (by omega)) ?_
  refine hg_iconst (v := 0) d_H_become_60 (by decide) ?_
  refine hg_aload0 d_H_become_61 ?_
  refine hg_getR d_H_become_62 f_H_7 rfl rfl (hX.lt (n := 18) ⟨by decide, by decide⟩ rfl (by omega)) (hR.h7 (by omega)) ?_
  refine hg_iconst (v := 0) d_H_become_65 (by decide) ?_
  refine hg_aload0 d_H_become_66 ?_
  refine hg_getR d_H_become_67 f_H_7 rfl rfl (hX.lt (n := 18) ⟨by decide, by decide⟩ rfl (by omega)) (hR.h7 (by omega)) ?_
  refine hg_alen d_H_become_70 rfl (hX.lt (n := 18) ⟨by decide, by decide⟩ rfl (by omega)) ?_
  refine hg_eq1 (y := nI 4) (by rw [hX.2.2.2.2 _ _ (by decide)]; rfl) ?_
  refine hg_copyI d_H_become_71 l_H_36 rfl rfl (hX.lt (n := 18) ⟨by decide, by decide⟩ rfl (by omega)) rfl rfl (hX.lt (n := 18) ⟨by decide, by decide⟩ rfl (by omega)) (by decide) (by decide) (by decide) (by rw [hX.2.2.2.2 4 _ (by decide)]; exact (by decide : (0 : Int32).toNatClampNeg + (nI 4).toNatClampNeg ≤ 4)) (by rw [hX.2.2.2.2 4 _ (by decide)]; exact (by decide : (0 : Int32).toNatClampNeg + (nI 4).toNatClampNeg ≤ 4)) (Nat.le_of_ble_eq_true rfl) ?_
  refine hg_return d_H_become_74 rfl ?_
  refine ⟨_, rfl, fun f hf => ?_, fun j hj => ?_, fun q r hn => ?_⟩
  · have h7 : f = 0 ∨ f = 1 ∨ f = 2 ∨ f = 3 ∨ f = 4 ∨ f = 5 ∨ f = 6 := by omega
    rcases h7 with rfl | rfl | rfl | rfl | rfl | rfl | rfl <;> simp [hg_cp, hg_u3]
  · unfold hg_cp; rw [if_pos ⟨rfl, rfl, Nat.zero_le _, by show j < 0 + 4; omega⟩]; show hg_u3 _ 3 _ _ _ 4 i2 (0 + (j - 0)) = _; rw [show 0 + (j - 0) = j by omega]; simp [hg_u3]
  · funext x; unfold hg_cp; rw [if_neg (by omega)]; simp only [hg_u3]; repeat rw [if_neg (by omega)]

theorem m_S_add {σ : hs_S} {s : Nat} {k v b : Int32} (hX : hg_XS T X) (hR : hg_SR T Rf) (hs : s < 3) (hC : hs_C s σ I Rf) (hO : hs_ok T σ) : hg_MC l E (d + 2) Y_S_add 0 0 [.ref (hg_ad E 1 s), .int k, .int v, .int b] (I, Lg, Rf, X) (hg_i (fun r M' => (hs_n σ = 6 ∧ r = -4 ∧ M' = (I, Lg, Rf, X)) ∨ (hs_n σ < 6 ∧ r = nI (hs_n σ) ∧ ∃ I' : Nat → Nat → Nat → Int32, M' = (I', Lg, Rf, X) ∧ hs_C s (hs_add σ k v b) I' Rf ∧ hg_fr s I' I))) := by
  have hn6 := hO.1
  refine hg_mc k_S_add (Nat.le_of_ble_eq_true rfl) ?_
  show hg_WP l E _ Y_S_add 0 0 0 [some (.ref (hg_ad E 1 s)), some (.int k), some (.int v), some (.int b)] [] (I, Lg, Rf, X) _
  refine hg_aload0 d_S_add_0 ?_
  refine hg_getI d_S_add_1 f_S_29 rfl rfl (hX.lt (n := 3) ⟨by decide, by decide⟩ rfl (by omega)) ?_
  refine hg_eq1 (y := nI (hs_n σ)) (hC.1) ?_
  refine hg_bipush (v := 6) d_S_add_4 (by decide) ?_
  refine hg_icmp_ne (tgt := 12) d_S_add_6 (by decide) (fun hA => ?_) (fun hA => ?_)
  · have hlt : hs_n σ < 6 := Nat.lt_of_le_of_ne hn6 (fun z => hA (by rw [z]; rfl))
    refine hg_aload0 d_S_add_12 ?_
    refine hg_getR d_S_add_13 f_S_11 rfl rfl (hX.lt (n := 3) ⟨by decide, by decide⟩ rfl (by omega)) (hR.s0 (by omega)) ?_
    refine hg_aload0 d_S_add_16 ?_
    refine hg_getI d_S_add_17 f_S_29 rfl rfl (hX.lt (n := 3) ⟨by decide, by decide⟩ rfl (by omega)) ?_
    refine hg_eq1 (y := nI (hs_n σ)) (hC.1) ?_
    refine hg_aald_n (j := (hs_n σ)) d_S_add_20 rfl (by decide) (hX.lt (n := 3) ⟨by decide, by decide⟩ rfl (by omega)) (hX.jn (n := 6) (by decide) rfl (by omega)) (hR.ha (by omega) (by omega)) ?_
    refine hg_iload1 d_S_add_21 ?_
    refine hg_iload2 d_S_add_22 ?_
    refine hg_iload3 d_S_add_23 ?_
    refine hg_cVv d_S_add_24 l_S_53 rfl rfl (hX.lt (n := 18) ⟨by decide, by decide⟩ rfl (by omega)) rfl (Nat.le_of_ble_eq_true rfl) (m_H_begin (i := 6 * s + hs_n σ) hX hR (by omega)) rfl ?_
    rintro _ ⟨I1, rfl, hb1, hb2, hb3⟩
    refine hg_aload0 d_S_add_27 ?_
    refine hg_getR d_S_add_28 f_S_17 rfl rfl (hX.lt (n := 3) ⟨by decide, by decide⟩ rfl (by omega)) (hR.s1 (by omega)) ?_
    refine hg_aload0 d_S_add_31 ?_
    refine hg_getI d_S_add_32 f_S_29 rfl rfl (hX.lt (n := 3) ⟨by decide, by decide⟩ rfl (by omega)) ?_
    refine hg_eq1 (y := nI (hs_n σ)) (by rw [hb3 1 s (by omega)]; exact hC.1) ?_
    refine hg_aload0 d_S_add_35 ?_
    refine hg_getI d_S_add_36 f_S_29 rfl rfl (hX.lt (n := 3) ⟨by decide, by decide⟩ rfl (by omega)) ?_
    refine hg_eq1 (y := nI (hs_n σ)) (by rw [hb3 1 s (by omega)]; exact hC.1) ?_
    refine hg_iast_n (j := (hs_n σ)) d_S_add_39 rfl rfl (hX.lt (n := 3) ⟨by decide, by decide⟩ rfl (by omega)) (hX.jn (n := 6) (by decide) rfl (by omega)) ?_
    refine hg_aload0 d_S_add_40 ?_
    refine hg_dup d_S_add_41 rfl ?_
    refine hg_getI d_S_add_42 f_S_29 rfl rfl (hX.lt (n := 3) ⟨by decide, by decide⟩ rfl (by omega)) ?_
    refine hg_eq1 (y := I1 1 s 2) (by simp [hg_u3]) ?_
    refine hg_eq1 (y := nI (hs_n σ)) (by rw [hb3 1 s (by omega)]; exact hC.1) ?_
    refine hg_iconst (v := 1) d_S_add_45 (by decide) ?_
    refine hg_iadd d_S_add_46 ?_
    refine hg_eq1 (y := nI ((hs_n σ) + 1)) (nI_add _ _) ?_
    refine hg_putI d_S_add_47 f_S_29 rfl rfl (Or.inl rfl) rfl rfl (hX.lt (n := 3) ⟨by decide, by decide⟩ rfl (by omega)) ?_
    refine hg_aload0 d_S_add_50 ?_
    refine hg_getI d_S_add_51 f_S_29 rfl rfl (hX.lt (n := 3) ⟨by decide, by decide⟩ rfl (by omega)) ?_
    refine hg_eq1 (y := nI ((hs_n σ) + 1)) (by simp [hg_u3]) ?_
    refine hg_iconst (v := 1) d_S_add_54 (by decide) ?_
    refine hg_isub d_S_add_55 ?_
    refine hg_eq1 (y := nI (hs_n σ)) (by rw [nI_pred]) ?_
    refine hg_ireturn d_S_add_56 rfl rfl ?_
    refine Or.inr ⟨hlt, rfl, _, rfl, ?_, ((hg_fr.tr (fun q r hn => hb3 q r ?_) hg_fr.rf).u3 hg_tch5).u3 hg_tch1⟩
    · obtain ⟨h1, h2, h3, h4, h5, h6, h7, h8, h9⟩ := hC
      have e1 : ∀ q, q ≠ 2 → hg_u3 (hg_u3 I1 5 s (hs_n σ) (nI (hs_n σ))) 1 s 2 (nI (hs_n σ + 1)) 1 s q = I 1 s q := fun q hq => by rw [← hb3 1 s (by omega)]; simp [hg_u3, hq]
      refine ⟨by rw [hg_u3s]; rfl, (e1 3 (by decide)).trans h2, (e1 4 (by decide)).trans h3, (e1 5 (by decide)).trans h4, (e1 6 (by decide)).trans h5, fun j hj => ?_, fun h f hh hf => ?_, fun h j hh hj => ?_, h9⟩
      · have hj : j < hs_n σ + 1 := hj
        show hg_u3 _ 1 s 2 _ 5 s j = nI (if j = hs_n σ then hs_n σ else hs_st σ j)
        by_cases e : j = hs_n σ
        · subst e; simp [hg_u3]
        · rw [if_neg e]; have := h6 j (by omega); rw [← hb3 5 s (by omega)] at this; simp [hg_u3, e, this]
      · have hh : h < hs_n σ + 1 := hh
        show hg_u3 _ 1 s 2 _ 3 (6 * s + h) f = if h = hs_n σ then hs_nh k v b f else hs_hv σ h f
        by_cases e : h = hs_n σ
        · subst e; rw [if_pos rfl, ← hb1 f hf]; simp [hg_u3]
        · rw [if_neg e]; have := h7 h f (by omega) hf; rw [← hb3 3 (6 * s + h) (by omega)] at this; simp [hg_u3, this]
      · have hh : h < hs_n σ + 1 := hh
        show hg_u3 _ 1 s 2 _ 4 (6 * s + h) j = if h = hs_n σ then 0 else hs_rw σ h j
        by_cases e : h = hs_n σ
        · subst e; rw [if_pos rfl, ← hb2 j hj]; simp [hg_u3]
        · rw [if_neg e]; have := h8 h j (by omega) hj; rw [← hb3 4 (6 * s + h) (by omega)] at this; simp [hg_u3, this]
    · intro z; exact hn (Or.inr (Or.inr ⟨z.1, by omega⟩))
  · replace hA := Decidable.not_not.mp hA
    have hn : hs_n σ = 6 := (nI_eq (by omega) (by decide)).mp (show nI (hs_n σ) = nI 6 from hA)
    refine hg_bipush (v := (-4)) d_S_add_9 (by decide) ?_
    refine hg_ireturn d_S_add_11 rfl rfl ?_
    exact Or.inl ⟨hn, rfl, rfl⟩

theorem m_S_become_loop {σ : hs_S} {s s2 : Nat} (hX : hg_XS T X) (hR : hg_SR T Rf) (hs : s < 3) (hs2 : s2 < 3) (hne : s ≠ s2) (hC : hs_C s2 σ I Rf) (hO : hs_ok T σ) : ∀ (k i : Nat) (I1 : Nat → Nat → Nat → Int32), i + k = hs_n σ → hs_Cp s i σ I1 (hg_u3 Rf 1 s 7 (some (19, hs_tn σ))) → hs_C s2 σ I1 (hg_u3 Rf 1 s 7 (some (19, hs_tn σ))) → hg_fr s I1 I → hg_WP l E (d + 1) Y_S_become 0 0 50 [some (.ref (hg_ad E 1 s)), some (.ref (hg_ad E 1 s2)), some (.int (nI i))] [] (I1, Lg, (hg_u3 Rf 1 s 7 (some (19, hs_tn σ))), X) (hg_v (fun M' => ∃ I' : Nat → Nat → Nat → Int32, M' = (I', Lg, hg_u3 Rf 1 s 7 (some (19, hs_tn σ)), X) ∧ hs_C s σ I' (hg_u3 Rf 1 s 7 (some (19, hs_tn σ))) ∧ hg_fr s I' I)) := by
  intro k
  induction k with
  | zero =>
    intro i I1 hik h1 h2 h3
    obtain rfl : hs_n σ = i := by omega
    have hR := hR.tn (s := s) (q := some (19, hs_tn σ))
    have hn6 := hO.1
    refine hg_iload2 d_S_become_50 ?_
    refine hg_aload0 d_S_become_51 ?_
    refine hg_getI d_S_become_52 f_S_29 rfl rfl (hX.lt (n := 3) ⟨by decide, by decide⟩ rfl (by omega)) ?_
    refine hg_eq1 (y := nI (hs_n σ)) (h1.1) ?_
    refine hg_icmp_ge (tgt := 91) d_S_become_55 (by decide) (fun h_1 => ?_) (fun h_1 => absurd (Int32.le_refl _) h_1)
    refine hg_return d_S_become_91 rfl ?_
    exact ⟨I1, rfl, h1, h3⟩
  | succ k ih =>
    intro i I1 hik h1 h2 h3
    have hR2 := hR
    have hR := hR.tn (s := s) (q := some (19, hs_tn σ))
    have hn6 := hO.1
    have hsh := (hO.2.2.2.2.1 i (by omega)).2.2
    have hi7 := h2.2.2.2.2.2.2.1 i
    refine hg_iload2 d_S_become_50 ?_
    refine hg_aload0 d_S_become_51 ?_
    refine hg_getI d_S_become_52 f_S_29 rfl rfl (hX.lt (n := 3) ⟨by decide, by decide⟩ rfl (by omega)) ?_
    refine hg_eq1 (y := nI (hs_n σ)) (h1.1) ?_
    refine hg_icmp_ge (tgt := 91) d_S_become_55 (by decide) (fun h_2 => absurd h_2 (nI_ge (by omega) (by omega))) (fun h_2 => ?_)
    refine hg_aload0 d_S_become_58 ?_
    refine hg_getR d_S_become_59 f_S_11 rfl rfl (hX.lt (n := 3) ⟨by decide, by decide⟩ rfl (by omega)) (hR.s0 (by omega)) ?_
    refine hg_iload2 d_S_become_62 ?_
    refine hg_aald_n (j := i) d_S_become_63 rfl (by decide) (hX.lt (n := 3) ⟨by decide, by decide⟩ rfl (by omega)) (hX.jn (n := 6) (by decide) rfl (by omega)) (hR.ha (by omega) (by omega)) ?_
    refine hg_aload1 d_S_become_64 ?_
    refine hg_getR d_S_become_65 f_S_11 rfl rfl (hX.lt (n := 3) ⟨by decide, by decide⟩ rfl (by omega)) (hR.s0 (by omega)) ?_
    refine hg_iload2 d_S_become_68 ?_
    refine hg_aald_n (j := i) d_S_become_69 rfl (by decide) (hX.lt (n := 3) ⟨by decide, by decide⟩ rfl (by omega)) (hX.jn (n := 6) (by decide) rfl (by omega)) (hR.ha (by omega) (by omega)) ?_
    refine hg_cVv d_S_become_70 l_S_45 rfl rfl (hX.lt (n := 18) ⟨by decide, by decide⟩ rfl (by omega)) rfl (Nat.le_of_ble_eq_true rfl) (m_H_become (i := 6 * s + i) (i2 := 6 * s2 + i) hX hR (by omega) (by omega) (by omega) (by rw [hi7 6 (by omega) (by decide)]; exact hsh)) rfl ?_
    rintro _ ⟨I2, rfl, hb1, hb2, hb3⟩
    refine hg_aload0 d_S_become_73 ?_
    refine hg_getR d_S_become_74 f_S_17 rfl rfl (hX.lt (n := 3) ⟨by decide, by decide⟩ rfl (by omega)) (hR.s1 (by omega)) ?_
    refine hg_iload2 d_S_become_77 ?_
    refine hg_aload1 d_S_become_78 ?_
    refine hg_getR d_S_become_79 f_S_17 rfl rfl (hX.lt (n := 3) ⟨by decide, by decide⟩ rfl (by omega)) (hR.s1 (by omega)) ?_
    refine hg_iload2 d_S_become_82 ?_
    refine hg_iald_n (j := i) d_S_become_83 rfl rfl (hX.lt (n := 3) ⟨by decide, by decide⟩ rfl (by omega)) (hX.jn (n := 6) (by decide) rfl (by omega)) ?_
    refine hg_eq1 (y := nI (hs_st σ i)) (by rw [hb3 5 s2 (by omega)]; exact h2.2.2.2.2.2.1 i (by omega)) ?_
    refine hg_iast_n (j := i) d_S_become_84 rfl rfl (hX.lt (n := 3) ⟨by decide, by decide⟩ rfl (by omega)) (hX.jn (n := 6) (by decide) rfl (by omega)) ?_
    refine hg_iinc2 (v := nI (i + 1)) d_S_become_85 rfl (nI_add _ _) ?_
    refine hg_goto (tgt := 50) d_S_become_88 (by decide) ?_
    have hf2 : hg_fr s I2 I1 := fun q r hn => hb3 q r (fun z => hn (Or.inr (Or.inr ⟨z.1, by omega⟩)))
    have hf3 := (hf2.tr h3).u3 (j := i) (x := nI (hs_st σ i)) (hg_tch5 (s := s))
    refine ih (i + 1) _ (by omega) (h1.succ (by omega) (fun f hf => ?_) (fun j hj => ?_) rfl hb3) ?_ hf3
    · rw [hb1 f hf]; exact hi7 f (by omega) hf
    · rw [hb2 j hj]; exact h2.2.2.2.2.2.2.2.1 i j (by omega) hj
    · exact h2.fr hn6 (Ne.symm hne) (hf2.u3 hg_tch5)
theorem m_S_become {σ : hs_S} {s s2 : Nat} (hX : hg_XS T X) (hR : hg_SR T Rf) (hs : s < 3) (hs2 : s2 < 3) (hne : s ≠ s2) (hC : hs_C s2 σ I Rf) (hO : hs_ok T σ) : hg_MC l E (d + 2) Y_S_become 0 0 [.ref (hg_ad E 1 s), .ref (hg_ad E 1 s2)] (I, Lg, Rf, X) (hg_v (fun M' => ∃ I' : Nat → Nat → Nat → Int32, M' = (I', Lg, hg_u3 Rf 1 s 7 (some (19, hs_tn σ)), X) ∧ hs_C s σ I' (hg_u3 Rf 1 s 7 (some (19, hs_tn σ))) ∧ hg_fr s I' I)) := by
  refine hg_mc k_S_become (Nat.le_of_ble_eq_true rfl) ?_
  show hg_WP l E _ Y_S_become 0 0 0 [some (.ref (hg_ad E 1 s)), some (.ref (hg_ad E 1 s2)), none] [] (I, Lg, Rf, X) _
  refine hg_aload0 d_S_become_0 ?_
  refine hg_aload1 d_S_become_1 ?_
  refine hg_getI d_S_become_2 f_S_29 rfl rfl (hX.lt (n := 3) ⟨by decide, by decide⟩ rfl (by omega)) ?_
  refine hg_eq1 (y := nI (hs_n σ)) (hC.1) ?_
  refine hg_putI d_S_become_5 f_S_29 rfl rfl (Or.inl rfl) rfl rfl (hX.lt (n := 3) ⟨by decide, by decide⟩ rfl (by omega)) ?_
  refine hg_aload0 d_S_become_8 ?_
  refine hg_aload1 d_S_become_9 ?_
  refine hg_getI d_S_become_10 f_S_33 rfl rfl (hX.lt (n := 3) ⟨by decide, by decide⟩ rfl (by omega)) ?_
  refine hg_eq1 (y := I 1 s2 3) (by simp [hg_u3, Ne.symm hne]) ?_
  refine hg_eq1 (y := nI (hs_p σ)) (hC.2.1) ?_
  refine hg_putI d_S_become_13 f_S_33 rfl rfl (Or.inl rfl) rfl rfl (hX.lt (n := 3) ⟨by decide, by decide⟩ rfl (by omega)) ?_
  refine hg_aload0 d_S_become_16 ?_
  refine hg_aload1 d_S_become_17 ?_
  refine hg_getI d_S_become_18 f_S_36 rfl rfl (hX.lt (n := 3) ⟨by decide, by decide⟩ rfl (by omega)) ?_
  refine hg_eq1 (y := I 1 s2 4) (by simp [hg_u3, Ne.symm hne]) ?_
  refine hg_eq1 (y := nI (hs_hu σ)) (hC.2.2.1) ?_
  refine hg_putI d_S_become_21 f_S_36 rfl rfl (Or.inl rfl) rfl rfl (hX.lt (n := 3) ⟨by decide, by decide⟩ rfl (by omega)) ?_
  refine hg_aload0 d_S_become_24 ?_
  refine hg_aload1 d_S_become_25 ?_
  refine hg_getI d_S_become_26 f_S_39 rfl rfl (hX.lt (n := 3) ⟨by decide, by decide⟩ rfl (by omega)) ?_
  refine hg_eq1 (y := I 1 s2 5) (by simp [hg_u3, Ne.symm hne]) ?_
  refine hg_eq1 (y := nI (hs_cl σ)) (hC.2.2.2.1) ?_
  refine hg_putI d_S_become_29 f_S_39 rfl rfl (Or.inl rfl) rfl rfl (hX.lt (n := 3) ⟨by decide, by decide⟩ rfl (by omega)) ?_
  refine hg_aload0 d_S_become_32 ?_
  refine hg_aload1 d_S_become_33 ?_
  refine hg_getI d_S_become_34 f_S_42 rfl rfl (hX.lt (n := 3) ⟨by decide, by decide⟩ rfl (by omega)) ?_
  refine hg_eq1 (y := I 1 s2 6) (by simp [hg_u3, Ne.symm hne]) ?_
  refine hg_eq1 (y := nI (hs_wk σ)) (hC.2.2.2.2.1) ?_
  refine hg_putI d_S_become_37 f_S_42 rfl rfl (Or.inl rfl) rfl rfl (hX.lt (n := 3) ⟨by decide, by decide⟩ rfl (by omega)) ?_
  refine hg_aload0 d_S_become_40 ?_
  refine hg_aload1 d_S_become_41 ?_
  refine hg_getR d_S_become_42 f_S_24 rfl rfl (hX.lt (n := 3) ⟨by decide, by decide⟩ rfl (by omega)) hC.2.2.2.2.2.2.2.2 ?_
  refine hg_putR d_S_become_45 f_S_24 rfl rfl (Or.inl rfl) (fun _ => rfl) (fun _ => rfl) (hX.lt (n := 3) ⟨by decide, by decide⟩ rfl (by omega)) ?_
  refine hg_iconst (v := 0) d_S_become_48 (by decide) ?_
  refine hg_istore2 d_S_become_49 rfl ?_
  have hf : hg_fr s (hg_u3 (hg_u3 (hg_u3 (hg_u3 (hg_u3 I 1 s 2 (nI (hs_n σ))) 1 s 3 (nI (hs_p σ))) 1 s 4 (nI (hs_hu σ))) 1 s 5 (nI (hs_cl σ))) 1 s 6 (nI (hs_wk σ))) I := ((((hg_fr.rf.u3 hg_tch1).u3 hg_tch1).u3 hg_tch1).u3 hg_tch1).u3 hg_tch1
  refine m_S_become_loop hX hR hs hs2 hne hC hO _ 0 _ (Nat.zero_add _) ⟨?_, ?_, ?_, ?_, ?_, fun j hj => absurd hj (Nat.not_lt_zero _), fun h f hh => absurd hh (Nat.not_lt_zero _), fun h j hh => absurd hh (Nat.not_lt_zero _), by simp [hg_u3]⟩ ((hC.rfx (Ne.symm hne)).fr hO.1 (Ne.symm hne) hf) hf
  all_goals simp [hg_u3]

end M5
