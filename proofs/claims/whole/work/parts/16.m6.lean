/-! lists, tapes, fractions -/
section M6
variable {l : Launch} {E : hg_E} {d T : Nat}
variable {I : Nat → Nat → Nat → Int32} {Lg : Nat → Nat → Nat → Int64} {Rf : Nat → Nat → Nat → Option (Nat × Nat)} {X : Nat × (Nat → Nat) × (Nat → Nat → Nat)}

theorem m_W_add {r c : Nat} {a : hs_L} {x y : Int32} (hX : hg_XS T X) (hR : hg_SR T Rf) (hr : r < 6) (hl8 : hg_len 8 r = c) (hl9 : hg_len 9 r = c) (hA : hs_LR r a I) (hac : a.1 ≤ c) (hc : c ≤ 10) : hg_MC l E (d + 1) Y_W_add 0 0 [.ref (hg_ad E 7 r), .int x, .int y] (I, Lg, Rf, X) (hg_i (fun v M' => (a.1 = c ∧ v = -4 ∧ M' = (I, Lg, Rf, X)) ∨ (a.1 < c ∧ v = nI (a.1 + 1) ∧ ∃ I' : Nat → Nat → Nat → Int32, M' = (I', Lg, Rf, X) ∧ hs_LR r (hs_Ladd a x y) I' ∧ hg_fl r I' I))) := by
  refine hg_mc k_W_add (Nat.le_of_ble_eq_true rfl) ?_
  show hg_WP l E _ Y_W_add 0 0 0 [some (.ref (hg_ad E 7 r)), some (.int x), some (.int y)] [] (I, Lg, Rf, X) _
  refine hg_aload0 d_W_add_0 ?_
  refine hg_getI d_W_add_1 f_W_18 rfl rfl (hX.lt (n := 6) ⟨by decide, by decide⟩ rfl (by omega)) ?_
  refine hg_eq1 (y := nI a.1) (hA.1) ?_
  refine hg_aload0 d_W_add_4 ?_
  refine hg_getR d_W_add_5 f_W_9 rfl rfl (hX.lt (n := 6) ⟨by decide, by decide⟩ rfl (by omega)) (hR.w0 (by omega)) ?_
  refine hg_alen d_W_add_8 rfl (hX.lt (n := 6) ⟨by decide, by decide⟩ rfl (by omega)) ?_
  refine hg_eq1 (y := nI c) (by rw [hX.2.2.2.2 _ _ (by decide), hl8]) ?_
  refine hg_icmp_ne (tgt := 15) d_W_add_9 (by decide) (fun hB => ?_) (fun hB => ?_)
  · have hlt : a.1 < c := Nat.lt_of_le_of_ne hac (fun z => hB (by rw [z]))
    refine hg_aload0 d_W_add_15 ?_
    refine hg_getR d_W_add_16 f_W_9 rfl rfl (hX.lt (n := 6) ⟨by decide, by decide⟩ rfl (by omega)) (hR.w0 (by omega)) ?_
    refine hg_aload0 d_W_add_19 ?_
    refine hg_getI d_W_add_20 f_W_18 rfl rfl (hX.lt (n := 6) ⟨by decide, by decide⟩ rfl (by omega)) ?_
    refine hg_eq1 (y := nI a.1) (hA.1) ?_
    refine hg_iload1 d_W_add_23 ?_
    refine hg_iast_n (j := a.1) d_W_add_24 rfl rfl (hX.lt (n := 6) ⟨by decide, by decide⟩ rfl (by omega)) (hX.jn (n := c) (by decide) hl8 (by omega)) ?_
    refine hg_aload0 d_W_add_25 ?_
    refine hg_getR d_W_add_26 f_W_15 rfl rfl (hX.lt (n := 6) ⟨by decide, by decide⟩ rfl (by omega)) (hR.w1 (by omega)) ?_
    refine hg_aload0 d_W_add_29 ?_
    refine hg_getI d_W_add_30 f_W_18 rfl rfl (hX.lt (n := 6) ⟨by decide, by decide⟩ rfl (by omega)) ?_
    refine hg_eq1 (y := I 7 r 2) (by simp [hg_u3]) ?_
    refine hg_eq1 (y := nI a.1) (hA.1) ?_
    refine hg_iload2 d_W_add_33 ?_
    refine hg_iast_n (j := a.1) d_W_add_34 rfl rfl (hX.lt (n := 6) ⟨by decide, by decide⟩ rfl (by omega)) (hX.jn (n := c) (by decide) hl9 (by omega)) ?_
    refine hg_aload0 d_W_add_35 ?_
    refine hg_dup d_W_add_36 rfl ?_
    refine hg_getI d_W_add_37 f_W_18 rfl rfl (hX.lt (n := 6) ⟨by decide, by decide⟩ rfl (by omega)) ?_
    refine hg_eq1 (y := I 7 r 2) (by simp [hg_u3]) ?_
    refine hg_eq1 (y := nI a.1) (hA.1) ?_
    refine hg_iconst (v := 1) d_W_add_40 (by decide) ?_
    refine hg_iadd d_W_add_41 ?_
    refine hg_eq1 (y := nI (a.1 + 1)) (nI_add _ _) ?_
    refine hg_putI d_W_add_42 f_W_18 rfl rfl (Or.inl rfl) rfl rfl (hX.lt (n := 6) ⟨by decide, by decide⟩ rfl (by omega)) ?_
    refine hg_aload0 d_W_add_45 ?_
    refine hg_getI d_W_add_46 f_W_18 rfl rfl (hX.lt (n := 6) ⟨by decide, by decide⟩ rfl (by omega)) ?_
    refine hg_eq1 (y := nI (a.1 + 1)) (by simp [hg_u3]) ?_
    refine hg_ireturn d_W_add_49 rfl rfl ?_
    refine Or.inr ⟨hlt, rfl, _, rfl, ⟨?_, fun j hj => ?_, fun j hj => ?_⟩, ((hg_fl.rf.u3 (by omega)).u3 (by omega)).u3 (by omega)⟩
    · simp [hg_u3, hs_Ladd]
    · have hj : j < a.1 + 1 := hj
      show hg_u3 _ 7 r 2 _ 8 r j = if j = a.1 then x else a.2.1 j
      by_cases e : j = a.1
      · subst e; simp [hg_u3]
      · rw [if_neg e, ← hA.2.1 j (by omega)]; simp [hg_u3, e]
    · have hj : j < a.1 + 1 := hj
      show hg_u3 _ 7 r 2 _ 9 r j = if j = a.1 then y else a.2.2 j
      by_cases e : j = a.1
      · subst e; simp [hg_u3]
      · rw [if_neg e, ← hA.2.2 j (by omega)]; simp [hg_u3, e]
  · replace hB := Decidable.not_not.mp hB
    have hn : a.1 = c := (nI_eq (by omega) (by omega)).mp hB
    refine hg_bipush (v := (-4)) d_W_add_12 (by decide) ?_
    refine hg_ireturn d_W_add_14 rfl rfl ?_
    exact Or.inl ⟨hn, rfl, rfl⟩

theorem m_W_empty {r : Nat} {f g : Nat → Int32} (hX : hg_XS T X) (hR : hg_SR T Rf) (hr : r < 6) : hg_MC l E (d + 1) Y_W_empty 0 0 [.ref (hg_ad E 7 r)] (I, Lg, Rf, X) (hg_i (fun v M' => v = 0 ∧ ∃ I' : Nat → Nat → Nat → Int32, M' = (I', Lg, Rf, X) ∧ hs_LR r (0, f, g) I' ∧ hg_fl r I' I)) := by
  refine hg_mc k_W_empty (Nat.le_of_ble_eq_true rfl) ?_
  show hg_WP l E _ Y_W_empty 0 0 0 [some (.ref (hg_ad E 7 r))] [] (I, Lg, Rf, X) _
  refine hg_aload0 d_W_empty_0 ?_
  refine hg_iconst (v := 0) d_W_empty_1 (by decide) ?_
  refine hg_putI d_W_empty_2 f_W_18 rfl rfl (Or.inl rfl) rfl rfl (hX.lt (n := 6) ⟨by decide, by decide⟩ rfl (by omega)) ?_
  refine hg_iconst (v := 0) d_W_empty_5 (by decide) ?_
  refine hg_ireturn d_W_empty_6 rfl rfl ?_
  exact ⟨rfl, _, rfl, ⟨by simp [hg_u3, nI], fun j hj => absurd hj (Nat.not_lt_zero _), fun j hj => absurd hj (Nat.not_lt_zero _)⟩, hg_fl.rf.u3 (by omega)⟩

theorem m_W_become {r r2 c : Nat} {a : hs_L} (hX : hg_XS T X) (hR : hg_SR T Rf) (hr : r < 6) (hr2 : r2 < 6) (hne : r ≠ r2) (h81 : hg_len 8 r = c) (h82 : hg_len 8 r2 = c) (h91 : hg_len 9 r = c) (h92 : hg_len 9 r2 = c) (hA : hs_LR r2 a I) (hac : a.1 ≤ c) (hc : c ≤ 10) : hg_MC l E (d + 1) Y_W_become 0 0 [.ref (hg_ad E 7 r), .ref (hg_ad E 7 r2)] (I, Lg, Rf, X) (hg_v (fun M' => ∃ I' : Nat → Nat → Nat → Int32, M' = (I', Lg, Rf, X) ∧ hs_LR r a I' ∧ hg_fl r I' I)) := by
  refine hg_mc k_W_become (Nat.le_of_ble_eq_true rfl) ?_
  show hg_WP l E _ Y_W_become 0 0 0 [some (.ref (hg_ad E 7 r)), some (.ref (hg_ad E 7 r2))] [] (I, Lg, Rf, X) _
  refine hg_aload0 d_W_become_0 ?_
  refine hg_aload1 d_W_become_1 ?_
  refine hg_getI d_W_become_2 f_W_18 rfl rfl (hX.lt (n := 6) ⟨by decide, by decide⟩ rfl (by omega)) ?_
  refine hg_eq1 (y := nI a.1) (hA.1) ?_
  refine hg_putI d_W_become_5 f_W_18 rfl rfl (Or.inl rfl) rfl rfl (hX.lt (n := 6) ⟨by decide, by decide⟩ rfl (by omega)) ?_
  refine hg_aload1 d_W_become_8 ?_
  refine hg_getR d_W_become_9 f_W_9 rfl rfl (hX.lt (n := 6) ⟨by decide, by decide⟩ rfl (by omega)) (hR.w0 (by omega)) ?_
  refine hg_iconst (v := 0) d_W_become_12 (by decide) ?_
  refine hg_aload0 d_W_become_13 ?_
  refine hg_getR d_W_become_14 f_W_9 rfl rfl (hX.lt (n := 6) ⟨by decide, by decide⟩ rfl (by omega)) (hR.w0 (by omega)) ?_
  refine hg_iconst (v := 0) d_W_become_17 (by decide) ?_
  refine hg_aload0 d_W_become_18 ?_
  refine hg_getI d_W_become_19 f_W_18 rfl rfl (hX.lt (n := 6) ⟨by decide, by decide⟩ rfl (by omega)) ?_
  refine hg_eq1 (y := nI a.1) (by simp [hg_u3, hg_cp]) ?_
  refine hg_copyI d_W_become_22 l_W_22 rfl rfl (hX.lt (n := 6) ⟨by decide, by decide⟩ rfl (by omega)) rfl rfl (hX.lt (n := 6) ⟨by decide, by decide⟩ rfl (by omega)) (by decide) (by decide) (nI_pos (by omega)) (by rw [hX.2.2.2.2 _ _ (by decide), h82, nI_clamp (by omega)]; show 0 + a.1 ≤ c; omega) (by rw [hX.2.2.2.2 _ _ (by decide), h81, nI_clamp (by omega)]; show 0 + a.1 ≤ c; omega) (Nat.le_of_ble_eq_true rfl) ?_
  refine hg_aload1 d_W_become_25 ?_
  refine hg_getR d_W_become_26 f_W_15 rfl rfl (hX.lt (n := 6) ⟨by decide, by decide⟩ rfl (by omega)) (hR.w1 (by omega)) ?_
  refine hg_iconst (v := 0) d_W_become_29 (by decide) ?_
  refine hg_aload0 d_W_become_30 ?_
  refine hg_getR d_W_become_31 f_W_15 rfl rfl (hX.lt (n := 6) ⟨by decide, by decide⟩ rfl (by omega)) (hR.w1 (by omega)) ?_
  refine hg_iconst (v := 0) d_W_become_34 (by decide) ?_
  refine hg_aload0 d_W_become_35 ?_
  refine hg_getI d_W_become_36 f_W_18 rfl rfl (hX.lt (n := 6) ⟨by decide, by decide⟩ rfl (by omega)) ?_
  refine hg_eq1 (y := nI a.1) (by simp [hg_u3, hg_cp]) ?_
  refine hg_copyI d_W_become_39 l_W_22 rfl rfl (hX.lt (n := 6) ⟨by decide, by decide⟩ rfl (by omega)) rfl rfl (hX.lt (n := 6) ⟨by decide, by decide⟩ rfl (by omega)) (by decide) (by decide) (nI_pos (by omega)) (by rw [hX.2.2.2.2 _ _ (by decide), h92, nI_clamp (by omega)]; show 0 + a.1 ≤ c; omega) (by rw [hX.2.2.2.2 _ _ (by decide), h91, nI_clamp (by omega)]; show 0 + a.1 ≤ c; omega) (Nat.le_of_ble_eq_true rfl) ?_
  refine hg_return d_W_become_42 rfl ?_
  refine ⟨_, rfl, ⟨?_, fun j hj => ?_, fun j hj => ?_⟩, fun k q hn => ?_⟩
  · simp [hg_cp, hg_u3]
  · have hj : j < a.1 := hj
    have hz : (0 : Int32).toNatClampNeg = 0 := by decide
    rw [← hA.2.1 j hj]; simp only [hg_cp, hg_u3, nI_clamp (show a.1 < 2 ^ 31 by omega), hz]
    rw [if_neg (by omega), if_pos ⟨trivial, trivial, Nat.zero_le _, by omega⟩, if_neg (by omega)]
    rw [show 0 + (j - 0) = j by omega]
  · have hj : j < a.1 := hj
    have hz : (0 : Int32).toNatClampNeg = 0 := by decide
    rw [← hA.2.2 j hj]; simp only [hg_cp, hg_u3, nI_clamp (show a.1 < 2 ^ 31 by omega), hz]
    rw [if_pos ⟨trivial, trivial, Nat.zero_le _, by omega⟩, if_neg (by omega), if_neg (by omega)]
    rw [show 0 + (j - 0) = j by omega]
  · funext x; simp only [hg_cp, hg_u3]; rw [if_neg (by omega), if_neg (by omega), if_neg (by omega)]

theorem m_P_hold_loop {t n : Nat} {x : Int32} (hX : hg_XS T X) (hR : hg_SR T Rf) (ht : t < 6) : ∀ (m j : Nat) (I1 : Nat → Nat → Nat → Int32) (L1 : Nat → Nat → Nat → Int64), j + m = 60 → (I1 16 t 0 = x ∧ I1 16 t 1 = nI n) → (∀ j2, j2 < j → L1 17 t j2 = 0) → (∀ k q, ¬ (k = 16 ∧ q = t) → I1 k q = I k q) → (∀ k q, ¬ (k = 17 ∧ q = t) → L1 k q = Lg k q) → hg_WP l E (d) Y_P_hold 0 0 12 [some (.ref (hg_ad E 16 t)), some (.int x), some (.int (nI n)), some (.int (nI j))] [] (I1, L1, Rf, X) (hg_v (fun M' => ∃ (I' : Nat → Nat → Nat → Int32) (L' : Nat → Nat → Nat → Int64), M' = (I', L', Rf, X) ∧ hs_PR t (x, n, fun _ => 0) I' L' ∧ (∀ k q, ¬ (k = 16 ∧ q = t) → I' k q = I k q) ∧ ∀ k q, ¬ (k = 17 ∧ q = t) → L' k q = Lg k q)) := by
  intro m
  induction m with
  | zero =>
    intro j I1 L1 hjm h1 h2 h3 h4
    refine hg_iload3 d_P_hold_12 ?_
    refine hg_bipush (v := 60) d_P_hold_13 (by decide) ?_
    refine hg_icmp_ge (tgt := 31) d_P_hold_15 (by decide) (fun h_1 => ?_) (fun h_1 => absurd (by rw [show j = 60 by omega]; exact Int32.le_refl _) h_1)
    refine hg_return d_P_hold_31 rfl ?_
    exact ⟨I1, L1, rfl, ⟨h1.1, h1.2, fun j2 hj2 => h2 j2 (by omega)⟩, h3, h4⟩
  | succ m ih =>
    intro j I1 L1 hjm h1 h2 h3 h4
    refine hg_iload3 d_P_hold_12 ?_
    refine hg_bipush (v := 60) d_P_hold_13 (by decide) ?_
    refine hg_icmp_ge (tgt := 31) d_P_hold_15 (by decide) (fun h_2 => absurd h_2 (nI_ge (b := 60) (by omega) (by decide))) (fun h_2 => ?_)
    refine hg_aload0 d_P_hold_18 ?_
    refine hg_getR d_P_hold_19 f_P_13 rfl rfl (hX.lt (n := 6) ⟨by decide, by decide⟩ rfl (by omega)) (hR.p2 (by omega)) ?_
    refine hg_iload3 d_P_hold_22 ?_
    refine hg_lconst (v := 0) d_P_hold_23 (by decide) ?_
    refine hg_last_n (j := j) d_P_hold_24 rfl rfl (hX.lt (n := 6) ⟨by decide, by decide⟩ rfl (by omega)) (hX.jn (n := 60) (by decide) rfl (by omega)) ?_
    refine hg_iinc3 (v := nI (j + 1)) d_P_hold_25 rfl (nI_add _ _) ?_
    refine hg_goto (tgt := 12) d_P_hold_28 (by decide) ?_
    refine ih (j + 1) _ _ (by omega) h1 (fun j2 hj2 => ?_) h3 (fun k q hn => ?_)
    · by_cases e : j2 = j
      · subst e; exact hg_u3s _ _ _ _ _
      · show (if _ then _ else L1 17 t j2) = 0; rw [if_neg (fun z => e z.2.2)]; exact h2 j2 (by omega)
    · rw [← h4 k q hn]; funext y; exact hg_u3k (by omega)
theorem m_P_hold {t n : Nat} {x : Int32} (hX : hg_XS T X) (hR : hg_SR T Rf) (ht : t < 6) : hg_MC l E (d + 1) Y_P_hold 0 0 [.ref (hg_ad E 16 t), .int x, .int (nI n)] (I, Lg, Rf, X) (hg_v (fun M' => ∃ (I' : Nat → Nat → Nat → Int32) (L' : Nat → Nat → Nat → Int64), M' = (I', L', Rf, X) ∧ hs_PR t (x, n, fun _ => 0) I' L' ∧ (∀ k q, ¬ (k = 16 ∧ q = t) → I' k q = I k q) ∧ ∀ k q, ¬ (k = 17 ∧ q = t) → L' k q = Lg k q)) := by
  refine hg_mc k_P_hold (Nat.le_of_ble_eq_true rfl) ?_
  show hg_WP l E _ Y_P_hold 0 0 0 [some (.ref (hg_ad E 16 t)), some (.int x), some (.int (nI n)), none] [] (I, Lg, Rf, X) _
  refine hg_aload0 d_P_hold_0 ?_
  refine hg_iload1 d_P_hold_1 ?_
  refine hg_putI d_P_hold_2 f_P_9 rfl rfl (Or.inl rfl) rfl rfl (hX.lt (n := 6) ⟨by decide, by decide⟩ rfl (by omega)) ?_
  refine hg_aload0 d_P_hold_5 ?_
  refine hg_iload2 d_P_hold_6 ?_
  refine hg_putI d_P_hold_7 f_P_17 rfl rfl (Or.inl rfl) rfl rfl (hX.lt (n := 6) ⟨by decide, by decide⟩ rfl (by omega)) ?_
  refine hg_iconst (v := 0) d_P_hold_10 (by decide) ?_
  refine hg_istore3 d_P_hold_11 rfl ?_
  exact m_P_hold_loop hX hR ht _ 0 _ _ (Nat.zero_add _) ⟨by simp [hg_u3], by simp [hg_u3]⟩ (fun j2 hj2 => absurd hj2 (Nat.not_lt_zero _)) (fun k q hn => by funext y; simp only [hg_u3]; rw [if_neg (by omega), if_neg (by omega)]) (fun k q hn => rfl)

theorem m_P_has {x : Int32} {t n : Nat} (hX : hg_XS T X) (hR : hg_SR T Rf) (ht : t < 6) (hn : I 16 t 1 = nI n) (hn6 : n ≤ 60) : hg_MC l E (d + 1) Y_P_has 0 0 [.ref (hg_ad E 16 t), .int x] (I, Lg, Rf, X) (hg_i (hg_bo (∃ j : Nat, j < n ∧ x = nI j) (I, Lg, Rf, X))) := by
  refine hg_mc k_P_has (Nat.le_of_ble_eq_true rfl) ?_
  show hg_WP l E _ Y_P_has 0 0 0 [some (.ref (hg_ad E 16 t)), some (.int x)] [] (I, Lg, Rf, X) _
  refine hg_iload1 d_P_has_0 ?_
  refine hg_if_lt (tgt := 16) d_P_has_1 (by decide) (fun h_1 => ?_) (fun h_1 => ?_)
  · refine hg_iconst (v := 0) d_P_has_16 (by decide) ?_
    refine hg_ireturn d_P_has_17 rfl (by decide) ?_
    exact ⟨Or.inr ⟨hg_notin (by omega) (by first | exact Or.inl (by assumption) | exact Or.inr (by assumption)), rfl⟩, rfl⟩
  · refine hg_iload1 d_P_has_4 ?_
    refine hg_aload0 d_P_has_5 ?_
    refine hg_getI d_P_has_6 f_P_17 rfl rfl (hX.lt (n := 6) ⟨by decide, by decide⟩ rfl (by omega)) ?_
    refine hg_eq1 (y := nI n) (hn) ?_
    refine hg_icmp_ge (tgt := 16) d_P_has_9 (by decide) (fun h_2 => ?_) (fun h_2 => ?_)
    · refine hg_iconst (v := 0) d_P_has_16 (by decide) ?_
      refine hg_ireturn d_P_has_17 rfl (by decide) ?_
      exact ⟨Or.inr ⟨hg_notin (by omega) (by first | exact Or.inl (by assumption) | exact Or.inr (by assumption)), rfl⟩, rfl⟩
    · refine hg_iconst (v := 1) d_P_has_12 (by decide) ?_
      refine hg_goto (tgt := 17) d_P_has_13 (by decide) ?_
      refine hg_ireturn d_P_has_17 rfl (by decide) ?_
      exact ⟨Or.inl ⟨hg_isin (by omega) (by assumption) (by assumption), rfl⟩, rfl⟩

theorem m_P_hasAll {x y : Int32} {t m : Nat} (hX : hg_XS T X) (hR : hg_SR T Rf) (ht : t < 6) (hn : I 16 t 1 = nI m) (hn6 : m ≤ 60) : hg_MC l E (d + 1) Y_P_hasAll 0 0 [.ref (hg_ad E 16 t), .int x, .int y] (I, Lg, Rf, X) (hg_i (hg_bo (∃ a b : Nat, y = nI b ∧ x = nI a ∧ a + b ≤ m) (I, Lg, Rf, X))) := by
  refine hg_mc k_P_hasAll (Nat.le_of_ble_eq_true rfl) ?_
  show hg_WP l E _ Y_P_hasAll 0 0 0 [some (.ref (hg_ad E 16 t)), some (.int x), some (.int y)] [] (I, Lg, Rf, X) _
  refine hg_iload2 d_P_hasAll_0 ?_
  refine hg_if_lt (tgt := 30) d_P_hasAll_1 (by decide) (fun h1 => ?_) (fun h1 => ?_)
  · have hz : ¬ ∃ a b : Nat, y = nI b ∧ x = nI a ∧ a + b ≤ m := by rintro ⟨a, b, rfl, rfl, hab⟩; exact nI_pos (by omega) h1
    refine hg_iconst (v := 0) d_P_hasAll_30 (by decide) ?_
    refine hg_ireturn d_P_hasAll_31 rfl (by decide) ?_
    exact ⟨Or.inr ⟨hz, rfl⟩, rfl⟩
  · refine hg_iload2 d_P_hasAll_4 ?_
    refine hg_aload0 d_P_hasAll_5 ?_
    refine hg_getI d_P_hasAll_6 f_P_17 rfl rfl (hX.lt (n := 6) ⟨by decide, by decide⟩ rfl (by omega)) ?_
    refine hg_eq1 (y := nI m) (hn) ?_
    refine hg_icmp_gt (tgt := 30) d_P_hasAll_9 (by decide) (fun h2 => ?_) (fun h2 => ?_)
    · have hz : ¬ ∃ a b : Nat, y = nI b ∧ x = nI a ∧ a + b ≤ m := by rintro ⟨a, b, rfl, rfl, hab⟩; rw [nI_ltI (by omega) (by omega)] at h2; omega
      refine hg_iconst (v := 0) d_P_hasAll_30 (by decide) ?_
      refine hg_ireturn d_P_hasAll_31 rfl (by decide) ?_
      exact ⟨Or.inr ⟨hz, rfl⟩, rfl⟩
    · obtain ⟨b, hbm, rfl⟩ := hg_isin2 (by omega) h1 h2
      refine hg_iload1 d_P_hasAll_12 ?_
      refine hg_if_lt (tgt := 30) d_P_hasAll_13 (by decide) (fun h3 => ?_) (fun h3 => ?_)
      · have hz : ¬ ∃ a b2 : Nat, nI b = nI b2 ∧ x = nI a ∧ a + b2 ≤ m := by rintro ⟨a, b2, e, rfl, hab⟩; exact nI_pos (by omega) h3
        refine hg_iconst (v := 0) d_P_hasAll_30 (by decide) ?_
        refine hg_ireturn d_P_hasAll_31 rfl (by decide) ?_
        exact ⟨Or.inr ⟨hz, rfl⟩, rfl⟩
      · refine hg_iload1 d_P_hasAll_16 ?_
        refine hg_aload0 d_P_hasAll_17 ?_
        refine hg_getI d_P_hasAll_18 f_P_17 rfl rfl (hX.lt (n := 6) ⟨by decide, by decide⟩ rfl (by omega)) ?_
        refine hg_eq1 (y := nI m) (hn) ?_
        refine hg_iload2 d_P_hasAll_21 ?_
        refine hg_isub d_P_hasAll_22 ?_
        refine hg_eq1 (y := nI (m - b)) (pk_sub hbm) ?_
        refine hg_icmp_gt (tgt := 30) d_P_hasAll_23 (by decide) (fun h4 => ?_) (fun h4 => ?_)
        · have hz : ¬ ∃ a b2 : Nat, nI b = nI b2 ∧ x = nI a ∧ a + b2 ≤ m := by rintro ⟨a, b2, e, rfl, hab⟩; have := (nI_eq (by omega) (by omega)).mp e; rw [nI_ltI (by omega) (by omega)] at h4; omega
          refine hg_iconst (v := 0) d_P_hasAll_30 (by decide) ?_
          refine hg_ireturn d_P_hasAll_31 rfl (by decide) ?_
          exact ⟨Or.inr ⟨hz, rfl⟩, rfl⟩
        · obtain ⟨a, ha, rfl⟩ := hg_isin2 (by omega) h3 h4
          refine hg_iconst (v := 1) d_P_hasAll_26 (by decide) ?_
          refine hg_goto (tgt := 31) d_P_hasAll_27 (by decide) ?_
          refine hg_ireturn d_P_hasAll_31 rfl (by decide) ?_
          exact ⟨Or.inl ⟨⟨a, b, rfl, rfl, by omega⟩, rfl⟩, rfl⟩

def hs_cut (k : Nat) (v : Int64) : Int64 := match k with
  | 0 => v.toInt32.toInt8.toInt32.toInt64
  | 1 => v.toInt32.toInt16.toInt32.toInt64
  | 2 => v.toInt32.toInt64
  | 4 => if v = 0 then 0 else 1
  | _ => v
theorem hs_lcmp0 (v : Int64) : lg_cmp v 0 = 0 ↔ v = 0 := by
  unfold lg_cmp
  by_cases h : v > 0
  · rw [if_pos h]
    constructor
    · intro q; exact absurd q (by decide)
    · intro q; rw [q] at h; exact absurd h (by decide)
  · rw [if_neg h]
    by_cases e : v = 0
    · rw [if_pos e]; simp [e]
    · rw [if_neg e]; simp [e]
theorem m_P_cut {v : Int64} {t k : Nat} (hX : hg_XS T X) (hR : hg_SR T Rf) (ht : t < 6) (hk : I 16 t 0 = nI k) (hk4 : k ≤ 4) : hg_MC l E (d + 1) Y_P_cut 0 0 [.ref (hg_ad E 16 t), .long v] (I, Lg, Rf, X) (hg_l (fun r M' => r = hs_cut k v ∧ M' = (I, Lg, Rf, X))) := by
  refine hg_mc k_P_cut (Nat.le_of_ble_eq_true rfl) ?_
  show hg_WP l E _ Y_P_cut 0 0 0 [some (.ref (hg_ad E 16 t)), some (.long v), none] [] (I, Lg, Rf, X) _
  refine hg_aload0 d_P_cut_0 ?_
  refine hg_getI d_P_cut_1 f_P_9 rfl rfl (hX.lt (n := 6) ⟨by decide, by decide⟩ rfl (by omega)) ?_
  refine hg_eq1 (y := nI k) (hk) ?_
  have h5 : k = 0 ∨ k = 1 ∨ k = 2 ∨ k = 3 ∨ k = 4 := by omega
  rcases h5 with rfl | rfl | rfl | rfl | rfl
  · refine hg_tabI (off := 36) (tgt := 40) d_P_cut_4 (by decide) (by decide) rfl (by decide) ?_
    refine hg_lload1 d_P_cut_40 ?_
    refine hg_l2i d_P_cut_41 ?_
    refine hg_i2b d_P_cut_42 ?_
    refine hg_i2l d_P_cut_43 ?_
    refine hg_lreturn d_P_cut_44 rfl ?_
    exact ⟨rfl, rfl⟩
  · refine hg_tabI (off := 41) (tgt := 45) d_P_cut_4 (by decide) (by decide) rfl (by decide) ?_
    refine hg_lload1 d_P_cut_45 ?_
    refine hg_l2i d_P_cut_46 ?_
    refine hg_i2s d_P_cut_47 ?_
    refine hg_i2l d_P_cut_48 ?_
    refine hg_lreturn d_P_cut_49 rfl ?_
    exact ⟨rfl, rfl⟩
  · refine hg_tabI (off := 46) (tgt := 50) d_P_cut_4 (by decide) (by decide) rfl (by decide) ?_
    refine hg_lload1 d_P_cut_50 ?_
    refine hg_l2i d_P_cut_51 ?_
    refine hg_i2l d_P_cut_52 ?_
    refine hg_lreturn d_P_cut_53 rfl ?_
    exact ⟨rfl, rfl⟩
  · refine hg_tabI (off := 62) (tgt := 66) d_P_cut_4 (by decide) (by decide) rfl (by decide) ?_
    refine hg_lload1 d_P_cut_66 ?_
    refine hg_lreturn d_P_cut_67 rfl ?_
    exact ⟨rfl, rfl⟩
  · refine hg_tabI (off := 50) (tgt := 54) d_P_cut_4 (by decide) (by decide) rfl (by decide) ?_
    refine hg_lload1 d_P_cut_54 ?_
    refine hg_lconst (v := 0) d_P_cut_55 (by decide) ?_
    refine hg_lcmp d_P_cut_56 ?_
    refine hg_if_eq (tgt := 64) d_P_cut_57 (by decide) (fun hz => ?_) (fun hz => ?_)
    · refine hg_lconst (v := 0) d_P_cut_64 (by decide) ?_
      refine hg_lreturn d_P_cut_65 rfl ?_
      exact ⟨(if_pos ((hs_lcmp0 v).mp hz)).symm, rfl⟩
    · refine hg_lconst (v := 1) d_P_cut_60 (by decide) ?_
      refine hg_goto (tgt := 65) d_P_cut_61 (by decide) ?_
      refine hg_lreturn d_P_cut_65 rfl ?_
      exact ⟨(if_neg (fun q => hz ((hs_lcmp0 v).mpr q))).symm, rfl⟩

theorem m_D_divisor_loop {a b : Nat} : ∀ (y x i : Nat) (a5 : Option Value), i + y < 64 → x < 2 ^ 31 → Nat.gcd x y = Nat.gcd a b → hg_WP l E (d) Y_D_divisor 0 0 7 [some (.int (nI a)), some (.int (nI b)), some (.int (nI x)), some (.int (nI y)), some (.int (nI i)), a5] [] (I, Lg, Rf, X) (hg_i (fun v M' => v = nI (Nat.gcd a b) ∧ M' = (I, Lg, Rf, X))) := by
  intro y
  induction y using Nat.strongRecOn with
  | _ y ih =>
    intro x i a5 hi hx hg
    refine hg_iload4 d_D_divisor_7 ?_
    refine hg_bipush (v := 64) d_D_divisor_9 (by decide) ?_
    refine hg_icmp_ge (tgt := 34) d_D_divisor_11 (by decide) (fun h_1 => absurd h_1 (nI_ge (b := 64) (by omega) (by decide))) (fun h_1 => ?_)
    refine hg_iload3 d_D_divisor_14 ?_
    refine hg_if_eq (tgt := 34) d_D_divisor_15 (by decide) (fun hy => ?_) (fun hy => ?_)
    · have hy0 : y = 0 := (nI_eq (by omega) (by decide)).mp (show nI y = nI 0 from hy)
      refine hg_iload2 d_D_divisor_34 ?_
      refine hg_ireturn d_D_divisor_35 rfl rfl ?_
      exact ⟨by rw [← hg, hy0, Nat.gcd_zero_right], rfl⟩
    · have hy0 : 0 < y := Nat.pos_of_ne_zero (fun z => hy (by rw [z]; rfl))
      refine hg_iload2 d_D_divisor_18 ?_
      refine hg_iload3 d_D_divisor_19 ?_
      refine hg_irem d_D_divisor_20 hy ?_
      refine hg_eq1 (y := nI (x % y)) (pk_rem hx hy0 (by omega)) ?_
      refine hg_istore5 d_D_divisor_21 rfl ?_
      refine hg_iload3 d_D_divisor_23 ?_
      refine hg_istore2 d_D_divisor_24 rfl ?_
      refine hg_iload5 d_D_divisor_25 ?_
      refine hg_istore3 d_D_divisor_27 rfl ?_
      refine hg_iinc4 (v := nI (i + 1)) d_D_divisor_28 rfl (nI_add _ _) ?_
      refine hg_goto (tgt := 7) d_D_divisor_31 (by decide) ?_
      have hm := Nat.mod_lt x hy0
      refine ih (x % y) hm y (i + 1) _ (by omega) (by omega) ?_
      rw [← hg, Nat.gcd_comm y, ← Nat.gcd_rec, Nat.gcd_comm]
theorem m_D_divisor {a b : Nat} (ha : a < 2 ^ 31) (hb : b < 60) : hg_MC l E (d + 1) Y_D_divisor 0 0 [.int (nI a), .int (nI b)] (I, Lg, Rf, X) (hg_i (fun v M' => v = nI (Nat.gcd a b) ∧ M' = (I, Lg, Rf, X))) := by
  refine hg_mc k_D_divisor (Nat.le_of_ble_eq_true rfl) ?_
  show hg_WP l E _ Y_D_divisor 0 0 0 [some (.int (nI a)), some (.int (nI b)), none, none, none, none] [] (I, Lg, Rf, X) _
  refine hg_iload0 d_D_divisor_0 ?_
  refine hg_istore2 d_D_divisor_1 rfl ?_
  refine hg_iload1 d_D_divisor_2 ?_
  refine hg_istore3 d_D_divisor_3 rfl ?_
  refine hg_iconst (v := 0) d_D_divisor_4 (by decide) ?_
  refine hg_istore4 d_D_divisor_5 rfl ?_
  exact m_D_divisor_loop _ _ 0 none (by omega) ha rfl

theorem m_D_lowest {a b : Nat} {p : Int32} (ha : a < 2 ^ 31) (hb : b < 60) (hb0 : 0 < b) : hg_MC l E (d + 2) Y_D_lowest 0 0 [.int (nI a), .int (nI b), .int p] (I, Lg, Rf, X) (hg_l (fun r M' => r = (if p = 0 then lN (a / Nat.gcd a b) else lN (b / Nat.gcd a b)) ∧ M' = (I, Lg, Rf, X))) := by
  have hgp : 0 < Nat.gcd a b := Nat.gcd_pos_of_pos_right _ hb0
  have hgl : Nat.gcd a b ≤ b := Nat.gcd_le_right _ hb0
  have hg0 : ¬ nI (Nat.gcd a b) = 0 := nI_ne0 hgp (by omega)
  refine hg_mc k_D_lowest (Nat.le_of_ble_eq_true rfl) ?_
  show hg_WP l E _ Y_D_lowest 0 0 0 [some (.int (nI a)), some (.int (nI b)), some (.int p), none] [] (I, Lg, Rf, X) _
  refine hg_iload0 d_D_lowest_0 ?_
  refine hg_iload1 d_D_lowest_1 ?_
  refine hg_cSi d_D_lowest_2 l_D_239 rfl (Nat.le_of_ble_eq_true rfl) (m_D_divisor ha hb) rfl ?_
  rintro _ _ ⟨rfl, rfl⟩
  refine hg_istore3 d_D_lowest_5 rfl ?_
  refine hg_iload3 d_D_lowest_6 ?_
  refine hg_if_ne (tgt := 14) d_D_lowest_7 (by decide) (fun h_1 => ?_) (fun h_1 => absurd (hg0) h_1)
  refine hg_iload2 d_D_lowest_14 ?_
  refine hg_if_ne (tgt := 22) d_D_lowest_15 (by decide) (fun hp => ?_) (fun hp => ?_)
  · refine hg_iload1 d_D_lowest_22 ?_
    refine hg_iload3 d_D_lowest_23 ?_
    refine hg_idiv d_D_lowest_24 hg0 ?_
    refine hg_eq1 (y := nI (b / Nat.gcd a b)) (pk_div (by omega) hgp (by omega)) ?_
    refine hg_i2l d_D_lowest_25 ?_
    refine hg_lreturn d_D_lowest_26 rfl ?_
    refine ⟨?_, rfl⟩
    rw [if_neg (by assumption)]
    exact nI_l (Nat.lt_of_le_of_lt (Nat.div_le_self _ _) (by omega))
  · replace hp := Decidable.not_not.mp hp
    refine hg_iload0 d_D_lowest_18 ?_
    refine hg_goto (tgt := 23) d_D_lowest_19 (by decide) ?_
    refine hg_iload3 d_D_lowest_23 ?_
    refine hg_idiv d_D_lowest_24 hg0 ?_
    refine hg_eq1 (y := nI (a / Nat.gcd a b)) (pk_div (by omega) hgp (by omega)) ?_
    refine hg_i2l d_D_lowest_25 ?_
    refine hg_lreturn d_D_lowest_26 rfl ?_
    refine ⟨?_, rfl⟩
    rw [if_pos (by assumption)]
    exact nI_l (Nat.lt_of_le_of_lt (Nat.div_le_self _ _) (by omega))

theorem m_D_tapeAt {x : Int32} (hX : hg_XS T X) (hR : hg_SR T Rf) : hg_MC l E (d + 1) Y_D_tapeAt 0 0 [.ref (hg_ad E 0 0), .int x] (I, Lg, Rf, X) (hg_r E (fun q M' => ((¬ (∃ j : Nat, j < 6 ∧ x = nI j) ∧ q = none) ∨ ∃ j : Nat, j < 6 ∧ x = nI j ∧ q = some (16, j)) ∧ M' = (I, Lg, Rf, X))) := by
  refine hg_mc k_D_tapeAt (Nat.le_of_ble_eq_true rfl) ?_
  show hg_WP l E _ Y_D_tapeAt 0 0 0 [some (.ref (hg_ad E 0 0)), some (.int x)] [] (I, Lg, Rf, X) _
  refine hg_iload1 d_D_tapeAt_0 ?_
  refine hg_if_lt (tgt := 22) d_D_tapeAt_1 (by decide) (fun h1 => ?_) (fun h1 => ?_)
  · refine hg_null d_D_tapeAt_22 ?_
    refine hg_areturnN d_D_tapeAt_23 rfl (Or.inl ⟨_, rfl⟩) ?_
    exact ⟨Or.inl ⟨hg_notin (n := 6) (by decide) (by first | exact Or.inl h1 | exact Or.inr h2), rfl⟩, rfl⟩
  · refine hg_iload1 d_D_tapeAt_4 ?_
    refine hg_aload0 d_D_tapeAt_5 ?_
    refine hg_getR d_D_tapeAt_6 f_D_51 rfl rfl (hX.lt (n := 1) ⟨by decide, by decide⟩ rfl (by omega)) (hR.D (j := 13) (q := (15, 0)) rfl) ?_
    refine hg_alen d_D_tapeAt_9 rfl (hX.lt (n := 1) ⟨by decide, by decide⟩ rfl (by omega)) ?_
    refine hg_eq1 (y := nI 6) (by rw [hX.2.2.2.2 _ _ (by decide)]; rfl) ?_
    refine hg_icmp_ge (tgt := 22) d_D_tapeAt_10 (by decide) (fun h2 => ?_) (fun h2 => ?_)
    · refine hg_null d_D_tapeAt_22 ?_
      refine hg_areturnN d_D_tapeAt_23 rfl (Or.inl ⟨_, rfl⟩) ?_
      exact ⟨Or.inl ⟨hg_notin (n := 6) (by decide) (by first | exact Or.inl h1 | exact Or.inr h2), rfl⟩, rfl⟩
    · obtain ⟨j, hj, rfl⟩ := hg_isin (n := 6) (by decide) h1 h2
      refine hg_aload0 d_D_tapeAt_13 ?_
      refine hg_getR d_D_tapeAt_14 f_D_51 rfl rfl (hX.lt (n := 1) ⟨by decide, by decide⟩ rfl (by omega)) (hR.D (j := 13) (q := (15, 0)) rfl) ?_
      refine hg_iload1 d_D_tapeAt_17 ?_
      refine hg_aald_n (j := j) d_D_tapeAt_18 rfl (by decide) (hX.lt (n := 1) ⟨by decide, by decide⟩ rfl (by omega)) (hX.jn (n := 6) (by decide) rfl (by omega)) (hR.pa (by omega)) ?_
      refine hg_goto (tgt := 23) d_D_tapeAt_19 (by decide) ?_
      refine hg_areturn d_D_tapeAt_23 rfl (Or.inl ⟨_, rfl⟩) ?_
      exact ⟨Or.inr ⟨j, hj, rfl, rfl⟩, rfl⟩

end M6
