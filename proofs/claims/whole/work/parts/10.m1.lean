/-! small methods of Scene, HangmanDinner and the model -/
section M1
variable {l : Launch} {E : hg_E} {d T : Nat}
variable {I : Nat → Nat → Nat → Int32} {Lg : Nat → Nat → Nat → Int64} {Rf : Nat → Nat → Nat → Option (Nat × Nat)} {X : Nat × (Nat → Nat) × (Nat → Nat → Nat)}
/-- it answers whether c holds, and changes nothing -/
def hg_bo (c : Prop) (N : hg_M) : Int32 → hg_M → Prop := fun v M' => ((c ∧ v = 1) ∨ (¬ c ∧ v = 0)) ∧ M' = N
theorem hg_notin {x : Int32} {n : Nat} (hn : n < 2 ^ 31) (h : x < 0 ∨ nI n ≤ x) : ¬ ∃ j : Nat, j < n ∧ x = nI j := by
  rintro ⟨j, hj, rfl⟩
  rcases h with h | h
  · exact nI_pos (by omega) h
  · exact nI_ge hj (by omega) h
theorem hg_isin {x : Int32} {n : Nat} (hn : n < 2 ^ 31) (h0 : ¬ x < 0) (h1 : ¬ nI n ≤ x) : ∃ j : Nat, j < n ∧ x = nI j := by
  rcases pk_ix x hn with h | h | h
  · exact absurd h h0
  · exact absurd h h1
  · exact h
theorem hg_isin2 {x : Int32} {n : Nat} (hn : n < 2 ^ 31 - 1) (h0 : ¬ x < 0) (h1 : ¬ nI n < x) : ∃ j : Nat, j ≤ n ∧ x = nI j := by
  obtain ⟨j, hj, e⟩ := nI_of h0
  subst e
  rw [nI_ltI (by omega) hj] at h1
  exact ⟨j, by omega, rfl⟩
theorem hg_notin2 {x : Int32} {n : Nat} (hn : n < 2 ^ 31 - 1) (h : x < 0 ∨ nI n < x) : ¬ ∃ j : Nat, j ≤ n ∧ x = nI j := by
  rintro ⟨j, hj, rfl⟩
  rcases h with h | h
  · exact nI_pos (by omega) h
  · rw [nI_ltI (by omega) (by omega)] at h; omega

theorem m_D_within {x : Int32} {b : Nat} (hm : b < 2 ^ 31 - 1) : hg_MC l E (d + 1) Y_D_within 0 0 [.int x, .int (nI b)] (I, Lg, Rf, X) (hg_i (hg_bo (∃ j : Nat, j ≤ b ∧ x = nI j) (I, Lg, Rf, X))) := by
  refine hg_mc k_D_within (Nat.le_of_ble_eq_true rfl) ?_
  show hg_WP l E _ Y_D_within 0 0 0 [some (.int x), some (.int (nI b))] [] (I, Lg, Rf, X) _
  refine hg_iload0 d_D_within_0 ?_
  refine hg_if_lt (tgt := 13) d_D_within_1 (by decide) (fun h_1 => ?_) (fun h_1 => ?_)
  · refine hg_iconst (v := 0) d_D_within_13 (by decide) ?_
    refine hg_ireturn d_D_within_14 rfl (by decide) ?_
    exact ⟨Or.inr ⟨hg_notin2 hm (by first | exact Or.inl (by assumption) | exact Or.inr (by assumption)), rfl⟩, rfl⟩
  · refine hg_iload0 d_D_within_4 ?_
    refine hg_iload1 d_D_within_5 ?_
    refine hg_icmp_gt (tgt := 13) d_D_within_6 (by decide) (fun h_2 => ?_) (fun h_2 => ?_)
    · refine hg_iconst (v := 0) d_D_within_13 (by decide) ?_
      refine hg_ireturn d_D_within_14 rfl (by decide) ?_
      exact ⟨Or.inr ⟨hg_notin2 hm (by first | exact Or.inl (by assumption) | exact Or.inr (by assumption)), rfl⟩, rfl⟩
    · refine hg_iconst (v := 1) d_D_within_9 (by decide) ?_
      refine hg_goto (tgt := 14) d_D_within_10 (by decide) ?_
      refine hg_ireturn d_D_within_14 rfl (by decide) ?_
      exact ⟨Or.inl ⟨hg_isin2 hm (by assumption) (by assumption), rfl⟩, rfl⟩

theorem m_S_has {x : Int32} {s n : Nat} (hX : hg_XS T X) (hs : s < 3) (hn : I 1 s 2 = nI n) (hn6 : n ≤ 6) : hg_MC l E (d + 1) Y_S_has 0 0 [.ref (hg_ad E 1 s), .int x] (I, Lg, Rf, X) (hg_i (hg_bo (∃ j : Nat, j < n ∧ x = nI j) (I, Lg, Rf, X))) := by
  refine hg_mc k_S_has (Nat.le_of_ble_eq_true rfl) ?_
  show hg_WP l E _ Y_S_has 0 0 0 [some (.ref (hg_ad E 1 s)), some (.int x)] [] (I, Lg, Rf, X) _
  refine hg_iload1 d_S_has_0 ?_
  refine hg_if_lt (tgt := 16) d_S_has_1 (by decide) (fun h_1 => ?_) (fun h_1 => ?_)
  · refine hg_iconst (v := 0) d_S_has_16 (by decide) ?_
    refine hg_ireturn d_S_has_17 rfl (by decide) ?_
    exact ⟨Or.inr ⟨hg_notin (by omega) (by first | exact Or.inl (by assumption) | exact Or.inr (by assumption)), rfl⟩, rfl⟩
  · refine hg_iload1 d_S_has_4 ?_
    refine hg_aload0 d_S_has_5 ?_
    refine hg_getI d_S_has_6 f_S_29 rfl rfl (hX.lt (n := 3) ⟨by decide, by decide⟩ rfl (by omega)) ?_
    refine hg_eq1 (y := nI n) (hn) ?_
    refine hg_icmp_ge (tgt := 16) d_S_has_9 (by decide) (fun h_2 => ?_) (fun h_2 => ?_)
    · refine hg_iconst (v := 0) d_S_has_16 (by decide) ?_
      refine hg_ireturn d_S_has_17 rfl (by decide) ?_
      exact ⟨Or.inr ⟨hg_notin (by omega) (by first | exact Or.inl (by assumption) | exact Or.inr (by assumption)), rfl⟩, rfl⟩
    · refine hg_iconst (v := 1) d_S_has_12 (by decide) ?_
      refine hg_goto (tgt := 17) d_S_has_13 (by decide) ?_
      refine hg_ireturn d_S_has_17 rfl (by decide) ?_
      exact ⟨Or.inl ⟨hg_isin (by omega) (by assumption) (by assumption), rfl⟩, rfl⟩

theorem m_S_at {x : Int32} {s n : Nat} (hX : hg_XS T X) (hR : hg_SR T Rf) (hs : s < 3) (hn : I 1 s 2 = nI n) (hn6 : n ≤ 6) : hg_MC l E (d + 2) Y_S_at 0 0 [.ref (hg_ad E 1 s), .int x] (I, Lg, Rf, X) (hg_r E (fun q M' => ((¬ (∃ j : Nat, j < n ∧ x = nI j) ∧ q = none) ∨ ∃ h : Nat, h < n ∧ x = nI h ∧ q = some (3, 6 * s + h)) ∧ M' = (I, Lg, Rf, X))) := by
  refine hg_mc k_S_at (Nat.le_of_ble_eq_true rfl) ?_
  show hg_WP l E _ Y_S_at 0 0 0 [some (.ref (hg_ad E 1 s)), some (.int x)] [] (I, Lg, Rf, X) _
  refine hg_aload0 d_S_at_0 ?_
  refine hg_iload1 d_S_at_1 ?_
  refine hg_cVi d_S_at_2 l_S_49 rfl rfl (hX.lt (n := 3) ⟨by decide, by decide⟩ rfl (by omega)) rfl (Nat.le_of_ble_eq_true rfl) (m_S_has hX hs hn hn6) rfl ?_
  rintro _ _ ⟨⟨hc, rfl⟩ | ⟨hc, rfl⟩, rfl⟩
  · obtain ⟨h, hh, rfl⟩ := hc
    refine hg_if_eq (tgt := 17) d_S_at_5 (by decide) (fun h_1 => absurd h_1 (by decide)) (fun h_1 => ?_)
    refine hg_aload0 d_S_at_8 ?_
    refine hg_getR d_S_at_9 f_S_11 rfl rfl (hX.lt (n := 3) ⟨by decide, by decide⟩ rfl (by omega)) (hR.s0 (by omega)) ?_
    refine hg_iload1 d_S_at_12 ?_
    refine hg_aald_n (j := h) d_S_at_13 rfl (by decide) (hX.lt (n := 3) ⟨by decide, by decide⟩ rfl (by omega)) (hX.jn (n := 6) (by decide) rfl (by omega)) (hR.ha (by omega) (by omega)) ?_
    refine hg_goto (tgt := 18) d_S_at_14 (by decide) ?_
    refine hg_areturn d_S_at_18 rfl (Or.inl ⟨_, rfl⟩) ?_
    exact ⟨Or.inr ⟨h, hh, rfl, rfl⟩, rfl⟩
  · refine hg_if_eq (tgt := 17) d_S_at_5 (by decide) (fun h_2 => ?_) (fun h_2 => absurd (by decide) h_2)
    refine hg_null d_S_at_17 ?_
    refine hg_areturnN d_S_at_18 rfl (Or.inl ⟨_, rfl⟩) ?_
    exact ⟨Or.inl ⟨hc, rfl⟩, rfl⟩

theorem m_S_behindPoint {s n p i : Nat} (hX : hg_XS T X) (hs : s < 3) (hn : I 1 s 2 = nI n) (hp : I 1 s 3 = nI p) (hn6 : n ≤ 6) (hpn : p ≤ n) (hi : i < 100) : hg_MC l E (d + 1) Y_S_behindPoint 0 0 [.ref (hg_ad E 1 s), .int (nI i)] (I, Lg, Rf, X) (hg_i (fun v M' => v = nI (hg_pl n p i) ∧ M' = (I, Lg, Rf, X))) := by
  refine hg_mc k_S_behindPoint (Nat.le_of_ble_eq_true rfl) ?_
  show hg_WP l E _ Y_S_behindPoint 0 0 0 [some (.ref (hg_ad E 1 s)), some (.int (nI i)), none] [] (I, Lg, Rf, X) _
  refine hg_aload0 d_S_behindPoint_0 ?_
  refine hg_getI d_S_behindPoint_1 f_S_33 rfl rfl (hX.lt (n := 3) ⟨by decide, by decide⟩ rfl (by omega)) ?_
  refine hg_eq1 (y := nI p) (hp) ?_
  refine hg_iload1 d_S_behindPoint_4 ?_
  refine hg_iadd d_S_behindPoint_5 ?_
  refine hg_eq1 (y := nI (p + i)) (nI_add _ _) ?_
  refine hg_istore2 d_S_behindPoint_6 rfl ?_
  refine hg_iload2 d_S_behindPoint_7 ?_
  refine hg_aload0 d_S_behindPoint_8 ?_
  refine hg_getI d_S_behindPoint_9 f_S_29 rfl rfl (hX.lt (n := 3) ⟨by decide, by decide⟩ rfl (by omega)) ?_
  refine hg_eq1 (y := nI n) (hn) ?_
  refine hg_icmp_ge (tgt := 19) d_S_behindPoint_12 (by decide) (fun hc => ?_) (fun hc => ?_)
  · refine hg_iload2 d_S_behindPoint_19 ?_
    refine hg_aload0 d_S_behindPoint_20 ?_
    refine hg_getI d_S_behindPoint_21 f_S_29 rfl rfl (hX.lt (n := 3) ⟨by decide, by decide⟩ rfl (by omega)) ?_
    refine hg_eq1 (y := nI n) (hn) ?_
    refine hg_isub d_S_behindPoint_24 ?_
    refine hg_eq1 (y := nI (p + i - n)) (pk_sub (by rw [nI_leI (by omega) (by omega)] at *; omega)) ?_
    refine hg_ireturn d_S_behindPoint_25 rfl rfl ?_
    have hc := hc
    rw [nI_leI (by omega) (by omega)] at hc
    exact ⟨by unfold hg_pl; first | rw [if_pos (by omega)] | rw [if_neg (by omega)], rfl⟩
  · refine hg_iload2 d_S_behindPoint_15 ?_
    refine hg_goto (tgt := 25) d_S_behindPoint_16 (by decide) ?_
    refine hg_ireturn d_S_behindPoint_25 rfl rfl ?_
    have hc := hc
    rw [nI_leI (by omega) (by omega)] at hc
    exact ⟨by unfold hg_pl; first | rw [if_pos (by omega)] | rw [if_neg (by omega)], rfl⟩

theorem m_D_orNotThere {x : Int32} : hg_MC l E (d + 1) Y_D_orNotThere 0 0 [.int x] (I, Lg, Rf, X) (hg_i (fun v M' => v = (if x < 0 then -5 else x) ∧ M' = (I, Lg, Rf, X))) := by
  refine hg_mc k_D_orNotThere (Nat.le_of_ble_eq_true rfl) ?_
  show hg_WP l E _ Y_D_orNotThere 0 0 0 [some (.int x)] [] (I, Lg, Rf, X) _
  refine hg_iload0 d_D_orNotThere_0 ?_
  refine hg_if_ge (tgt := 9) d_D_orNotThere_1 (by decide) (fun h_1 => ?_) (fun h_1 => ?_)
  · refine hg_iload0 d_D_orNotThere_9 ?_
    refine hg_ireturn d_D_orNotThere_10 rfl rfl ?_
    exact ⟨by first | rw [if_pos (by assumption)] | rw [if_neg (by rw [Int32.not_lt]; assumption)] | rw [if_pos (Int32.not_le.mp (by assumption))], rfl⟩
  · refine hg_bipush (v := (-5)) d_D_orNotThere_4 (by decide) ?_
    refine hg_goto (tgt := 10) d_D_orNotThere_6 (by decide) ?_
    refine hg_ireturn d_D_orNotThere_10 rfl rfl ?_
    exact ⟨by first | rw [if_pos (by assumption)] | rw [if_neg (by rw [Int32.not_lt]; assumption)] | rw [if_pos (Int32.not_le.mp (by assumption))], rfl⟩

end M1
