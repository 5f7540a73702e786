/-! the model: how its cells hold a street; what is within -/
/-- the model's cells hold σ -/
def hs_MS (σ : hs_S) (I : Nat → Nat → Nat → Int32) : Prop :=
  I 21 0 0 = nI (hs_n σ) ∧ I 21 0 10 = nI (hs_p σ) ∧ I 21 0 11 = nI (hs_hu σ) ∧ I 21 0 12 = nI (hs_cl σ) ∧ I 21 0 13 = nI (hs_wk σ) ∧ I 21 0 21 = nI (hs_tn σ) - 1 ∧
  (∀ j, j < hs_n σ → I 22 8 j = nI (hs_st σ j)) ∧ (∀ h f, h < hs_n σ → f < 7 → I 22 f h = hs_hv σ h f) ∧ (∀ h j, h < hs_n σ → j < 4 → I 22 7 (4 * h + j) = hs_rw σ h j)
/-- a list of the model's: its size's field, the regions of its two columns, what stands for y -/
def hs_ML (c r1 r2 : Nat) (y : Int32 → Int32 → Int32) (a : hs_L) (I : Nat → Nat → Nat → Int32) : Prop := I 21 0 c = nI a.1 ∧ ∀ i, i < a.1 → I 22 r1 i = a.2.1 i ∧ I 22 r2 i = y (a.2.1 i) (a.2.2 i)
def hs_y0 (_ y : Int32) : Int32 := if y = -1 then -5 else y
def hs_y1 (x y : Int32) : Int32 := if x = 0 then 0 else y
def hs_y2 (_ y : Int32) : Int32 := y
/-- what keep() laid down: a street, the lists -/
def hs_MI (σ : hs_S) (a0 a2 a4 : hs_L) (A : Nat → Int32) : Prop :=
  (∀ f p, f < 7 → p < hs_n σ → A (6 * f + p) = hs_hv σ p f) ∧ (∀ p, p < hs_n σ → A (42 + p) = nI (hs_st σ p)) ∧ (∀ p j, p < hs_n σ → j < 4 → A (48 + (4 * p + j)) = hs_rw σ p j) ∧
  (∀ i, i < a0.1 → A (72 + i) = a0.2.1 i ∧ A (77 + i) = hs_y0 (a0.2.1 i) (a0.2.2 i)) ∧ (∀ i, i < a2.1 → A (82 + i) = a2.2.1 i ∧ A (92 + i) = hs_y1 (a2.2.1 i) (a2.2.2 i)) ∧ (∀ i, i < a4.1 → A (102 + i) = a4.2.1 i ∧ A (110 + i) = a4.2.2 i) ∧
  A 118 = nI (hs_n σ) ∧ A 119 = nI (hs_p σ) ∧ A 120 = nI (hs_hu σ) ∧ A 121 = nI (hs_cl σ) ∧ A 122 = nI (hs_wk σ) ∧ A 123 = nI a0.1 ∧ A 124 = nI a2.1 ∧ A 125 = nI a4.1 ∧ A 126 = nI (hs_tn σ) - 1
section M23
variable {l : Launch} {E : hg_E} {d T : Nat}
variable {I : Nat → Nat → Nat → Int32} {Lg : Nat → Nat → Nat → Int64} {Rf : Nat → Nat → Nat → Option (Nat × Nat)} {X : Nat × (Nat → Nat) × (Nat → Nat → Nat)}
variable {σ : hs_S}
theorem hg_in0 {x : Int32} {n : Nat} (hn : n ≤ 2 ^ 30) : (0 ≤ x ∧ x ≤ nI n - 1) ↔ ∃ j : Nat, j < n ∧ x = nI j := by
  have hs : (nI n - 1).toInt = (n : Int) - 1 := by
    rcases Nat.eq_zero_or_pos n with z | z
    · subst z; decide
    · rw [show nI n - 1 = nI (n - 1) from pk_sub (a := n) (b := 1) z, nI_toInt (by omega)]; omega
  constructor
  · rintro ⟨h1, h2⟩
    have h1 := Int32.le_iff_toInt_le.mp h1
    have h2 := Int32.le_iff_toInt_le.mp h2
    rw [hs] at h2
    rw [show (0 : Int32).toInt = 0 from rfl] at h1
    obtain ⟨j, hj, rfl⟩ := nI_of (x := x) (fun z => by have := Int32.lt_iff_toInt_lt.mp z; rw [show (0 : Int32).toInt = 0 from rfl] at this; omega)
    rw [nI_toInt hj] at h2
    exact ⟨j, by omega, rfl⟩
  · rintro ⟨j, hj, rfl⟩
    exact ⟨Int32.le_iff_toInt_le.mpr (by rw [nI_toInt (by omega)]; show (0 : Int) ≤ _; omega), Int32.le_iff_toInt_le.mpr (by rw [hs, nI_toInt (by omega)]; omega)⟩
theorem m_M_within {x lo hi : Int32} : hg_MC l E (d + 1) Y_M_within 0 0 [.int x, .int lo, .int hi] (I, Lg, Rf, X) (hg_i (hg_bo (lo ≤ x ∧ x ≤ hi) (I, Lg, Rf, X))) := by
  refine hg_mc k_M_within (Nat.le_of_ble_eq_true rfl) ?_
  show hg_WP l E _ Y_M_within 0 0 0 [some (.int x), some (.int lo), some (.int hi)] [] (I, Lg, Rf, X) _
  refine hg_iload0 d_M_within_0 ?_
  refine hg_iload1 d_M_within_1 ?_
  refine hg_icmp_lt (tgt := 14) d_M_within_2 (by decide) (fun h1 => ?_) (fun h1 => ?_)
  · refine hg_iconst (v := 0) d_M_within_14 (by decide) ?_
    refine hg_ireturn d_M_within_15 rfl (by decide) ?_
    refine ⟨Or.inr ⟨fun z => ?_, rfl⟩, rfl⟩
    first | exact Int32.lt_irrefl (Int32.lt_of_le_of_lt z.2 h2) | exact Int32.lt_irrefl (Int32.lt_of_le_of_lt z.1 h1)
  · refine hg_iload0 d_M_within_5 ?_
    refine hg_iload2 d_M_within_6 ?_
    refine hg_icmp_gt (tgt := 14) d_M_within_7 (by decide) (fun h2 => ?_) (fun h2 => ?_)
    · refine hg_iconst (v := 0) d_M_within_14 (by decide) ?_
      refine hg_ireturn d_M_within_15 rfl (by decide) ?_
      refine ⟨Or.inr ⟨fun z => ?_, rfl⟩, rfl⟩
      first | exact Int32.lt_irrefl (Int32.lt_of_le_of_lt z.2 h2) | exact Int32.lt_irrefl (Int32.lt_of_le_of_lt z.1 h1)
    · refine hg_iconst (v := 1) d_M_within_10 (by decide) ?_
      refine hg_goto (tgt := 15) d_M_within_11 (by decide) ?_
      refine hg_ireturn d_M_within_15 rfl (by decide) ?_
      exact ⟨Or.inl ⟨⟨Int32.not_lt.mp h1, Int32.not_lt.mp h2⟩, rfl⟩, rfl⟩

theorem m_M_isOne {x : Int32} {n : Nat} (hX : hg_XS T X) (hn : I 21 0 0 = nI n) (hn6 : n ≤ 6) : hg_MC l E (d + 2) Y_M_isOne 0 0 [.ref (hg_ad E 21 0), .int x] (I, Lg, Rf, X) (hg_i (hg_bo (∃ j : Nat, j < n ∧ x = nI j) (I, Lg, Rf, X))) := by
  refine hg_mc k_M_isOne (Nat.le_of_ble_eq_true rfl) ?_
  show hg_WP l E _ Y_M_isOne 0 0 0 [some (.ref (hg_ad E 21 0)), some (.int x)] [] (I, Lg, Rf, X) _
  refine hg_iload1 d_M_isOne_0 ?_
  refine hg_iconst (v := 0) d_M_isOne_1 (by decide) ?_
  refine hg_aload0 d_M_isOne_2 ?_
  refine hg_getI d_M_isOne_3 f_M_108 rfl rfl (hX.lt (n := 1) ⟨by decide, by decide⟩ rfl (by omega)) ?_
  refine hg_eq1 (y := nI n) (hn) ?_
  refine hg_iconst (v := 1) d_M_isOne_6 (by decide) ?_
  refine hg_isub d_M_isOne_7 ?_
  refine hg_cSi d_M_isOne_8 l_M_111 rfl (Nat.le_of_ble_eq_true rfl) (m_M_within) rfl ?_
  rintro _ _ ⟨⟨hc, rfl⟩ | ⟨hc, rfl⟩, rfl⟩
  · refine hg_ireturn d_M_isOne_11 rfl (by decide) ?_
    exact ⟨Or.inl ⟨(hg_in0 (by omega)).mp hc, rfl⟩, rfl⟩
  · refine hg_ireturn d_M_isOne_11 rfl (by decide) ?_
    exact ⟨Or.inr ⟨fun z => hc ((hg_in0 (by omega)).mpr z), rfl⟩, rfl⟩

theorem m_M_placeOf_loop {j : Nat} (hX : hg_XS T X) (hR : hg_SR T Rf) (hM : hs_MS σ I) (hO : hs_ok T σ) (hj : j < hs_n σ) : ∀ (k i : Nat), i + k = j → hg_WP l E (d) Y_M_placeOf 0 0 2 [some (.ref (hg_ad E 21 0)), some (.int (nI (hs_st σ j))), some (.int (nI i))] [] (I, Lg, Rf, X) (hg_i (fun v M' => v = nI j ∧ M' = (I, Lg, Rf, X))) := by
  have hn6 := hO.1
  intro k
  induction k with
  | zero =>
    intro i hik
    obtain rfl : j = i := by omega
    refine hg_aload0 d_M_placeOf_2 ?_
    refine hg_getR d_M_placeOf_3 f_M_36 rfl rfl (hX.lt (n := 1) ⟨by decide, by decide⟩ rfl (by omega)) (hR.m (j := 9) (q := (22, 8)) rfl) ?_
    refine hg_iload2 d_M_placeOf_6 ?_
    refine hg_iald_n (j := j) d_M_placeOf_7 rfl rfl (hX.lt (n := 28) ⟨by decide, by decide⟩ rfl (by omega)) (hX.jn (n := 6) (by decide) rfl (by omega)) ?_
    refine hg_eq1 (y := nI (hs_st σ j)) (hM.2.2.2.2.2.2.1 _ (by omega)) ?_
    refine hg_iload1 d_M_placeOf_8 ?_
    refine hg_icmp_eq (tgt := 18) d_M_placeOf_9 (by decide) (fun h_1 => ?_) (fun h_1 => absurd (rfl) h_1)
    refine hg_iload2 d_M_placeOf_18 ?_
    refine hg_ireturn d_M_placeOf_19 rfl rfl ?_
    exact ⟨rfl, rfl⟩
  | succ k ih =>
    intro i hik
    have hsi := hO.2.2.1 i (by omega)
    have hsj := hO.2.2.1 j hj
    refine hg_aload0 d_M_placeOf_2 ?_
    refine hg_getR d_M_placeOf_3 f_M_36 rfl rfl (hX.lt (n := 1) ⟨by decide, by decide⟩ rfl (by omega)) (hR.m (j := 9) (q := (22, 8)) rfl) ?_
    refine hg_iload2 d_M_placeOf_6 ?_
    refine hg_iald_n (j := i) d_M_placeOf_7 rfl rfl (hX.lt (n := 28) ⟨by decide, by decide⟩ rfl (by omega)) (hX.jn (n := 6) (by decide) rfl (by omega)) ?_
    refine hg_eq1 (y := nI (hs_st σ i)) (hM.2.2.2.2.2.2.1 _ (by omega)) ?_
    refine hg_iload1 d_M_placeOf_8 ?_
    refine hg_icmp_eq (tgt := 18) d_M_placeOf_9 (by decide) (fun h_2 => absurd h_2 (fun e => by have := hO.2.2.2.1 i j (by omega) hj ((nI_eq (show hs_st σ i < 2 ^ 31 by omega) (show hs_st σ j < 2 ^ 31 by omega)).mp e); omega)) (fun h_2 => ?_)
    refine hg_iinc2 (v := nI (i + 1)) d_M_placeOf_12 rfl (nI_add _ _) ?_
    refine hg_goto (tgt := 2) d_M_placeOf_15 (by decide) ?_
    exact ih (i + 1) (by omega)
theorem m_M_placeOf {j : Nat} (hX : hg_XS T X) (hR : hg_SR T Rf) (hM : hs_MS σ I) (hO : hs_ok T σ) (hj : j < hs_n σ) : hg_MC l E (d + 1) Y_M_placeOf 0 0 [.ref (hg_ad E 21 0), .int (nI (hs_st σ j))] (I, Lg, Rf, X) (hg_i (fun v M' => v = nI j ∧ M' = (I, Lg, Rf, X))) := by
  refine hg_mc k_M_placeOf (Nat.le_of_ble_eq_true rfl) ?_
  show hg_WP l E _ Y_M_placeOf 0 0 0 [some (.ref (hg_ad E 21 0)), some (.int (nI (hs_st σ j))), none] [] (I, Lg, Rf, X) _
  refine hg_iconst (v := 0) d_M_placeOf_0 (by decide) ?_
  refine hg_istore2 d_M_placeOf_1 rfl ?_
  exact m_M_placeOf_loop hX hR hM hO hj _ 0 (Nat.zero_add _)

end M23
