/-! the model: how its cells hold a street; what is within -/
/-- the model's cells hold σ -/
def hs_MS (σ : hs_S) (I : Nat → Nat → Nat → Int32) : Prop :=
  I 21 0 0 = nI (hs_n σ) ∧ I 21 0 10 = nI (hs_p σ) ∧ I 21 0 11 = nI (hs_hu σ) ∧ I 21 0 12 = nI (hs_cl σ) ∧ I 21 0 13 = nI (hs_wk σ) ∧ I 21 0 21 = nI (hs_tn σ) - 1 ∧
  (∀ j, j < hs_n σ → I 22 8 j = nI (hs_st σ j)) ∧ (∀ h f, h < hs_n σ → f < 7 → I 22 f h = hs_hv σ h f) ∧ (∀ h j, h < hs_n σ → j < 4 → I 22 7 (4 * h + j) = hs_rw σ h j)
section M23
variable {l : Launch} {E : hg_E} {d T : Nat}
variable {I : Nat → Nat → Nat → Int32} {Lg : Nat → Nat → Nat → Int64} {Rf : Nat → Nat → Nat → Option (Nat × Nat)} {X : Nat × (Nat → Nat) × (Nat → Nat → Nat)}
variable {σ : hs_S}
theorem hg_in0 {x : Int32} {n : Nat} (hn : n ≤ 2 ^ 30) : (0 ≤ x ∧ x ≤ nI n - 1) ↔ ∃ j : Nat, j < n ∧ x = nI j := by
  have hs : (nI n - 1).toInt = (n : Int) - 1 := by
    rcases Nat.eq_zero_or_pos n with z | z
    · subst z; decide
    · rw [show nI n - 1 = nI (n - 1) from pk_sub (a := n) (b := 1) z, nI_toInt (by omega)]; omega
  constructor
  · rintro ⟨h1, h2⟩
    have h1 := Int32.le_iff_toInt_le.mp h1
    have h2 := Int32.le_iff_toInt_le.mp h2
    rw [hs] at h2
    rw [show (0 : Int32).toInt = 0 from rfl] at h1
    obtain ⟨j, hj, rfl⟩ := nI_of (x := x) (fun z => by have := Int32.lt_iff_toInt_lt.mp z; rw [show (0 : Int32).toInt = 0 from rfl] at this; omega)
    rw [nI_toInt hj] at h2
    exact ⟨j, by omega, rfl⟩
  · rintro ⟨j, hj, rfl⟩
    exact ⟨Int32.le_iff_toInt_le.mpr (by rw [nI_toInt (by omega)]; show (0 : Int) ≤ _; omega), Int32.le_iff_toInt_le.mpr (by rw [hs, nI_toInt (by omega)]; omega)⟩
theorem m_M_within {x lo hi : Int32} : hg_MC l E (d + 1) Y_M_within 0 0 [.int x, .int lo, .int hi] (I, Lg, Rf, X) (hg_i (hg_bo (lo ≤ x ∧ x ≤ hi) (I, Lg, Rf, X))) := by
  refine hg_mc k_M_within (Nat.le_of_ble_eq_true rfl) ?_
  show hg_WP l E _ Y_M_within 0 0 0 [some (.int x), some (.int lo), some (.int hi)] [] (I, Lg, Rf, X) _
  refine hg_iload0 d_M_within_0 ?_
  refine hg_iload1 d_M_within_1 ?_
  refine hg_icmp_lt (tgt := 14) d_M_within_2 (by decide) (fun h1 => ?_) (fun h1 => ?_)
  · refine hg_iconst (v := 0) d_M_within_14 (by decide) ?_
    refine hg_ireturn d_M_within_15 rfl (by decide) ?_
    refine ⟨Or.inr ⟨fun z => ?_, rfl⟩, rfl⟩
    first | exact Int32.lt_irrefl (Int32.lt_of_le_of_lt z.2 h2) | exact Int32.lt_irrefl (Int32.lt_of_le_of_lt z.1 h1)
  · refine hg_iload0 d_M_within_5 ?_
    refine hg_iload2 d_M_within_6 ?_
    refine hg_icmp_gt (tgt := 14) d_M_within_7 (by decide) (fun h2 => ?_) (fun h2 => ?_)
    · refine hg_iconst (v := 0) d_M_within_14 (by decide) ?_
      refine hg_ireturn d_M_within_15 rfl (by decide) ?_
      refine ⟨Or.inr ⟨fun z => ?_, rfl⟩, rfl⟩
      first | exact Int32.lt_irrefl (Int32.lt_of_le_of_lt z.2 h2) | exact Int32.lt_irrefl (Int32.lt_of_le_of_lt z.1 h1)
    · refine hg_iconst (v := 1) d_M_within_10 (by decide) ?_
      refine hg_goto (tgt := 15) d_M_within_11 (by decide) ?_
      refine hg_ireturn d_M_within_15 rfl (by decide) ?_
      exact ⟨Or.inl ⟨⟨Int32.not_lt.mp h1, Int32.not_lt.mp h2⟩, rfl⟩, rfl⟩

theorem m_M_isOne {x : Int32} {n : Nat} (hX : hg_XS T X) (hn : I 21 0 0 = nI n) (hn6 : n ≤ 6) : hg_MC l E (d + 2) Y_M_isOne 0 0 [.ref (hg_ad E 21 0), .int x] (I, Lg, Rf, X) (hg_i (hg_bo (∃ j : Nat, j < n ∧ x = nI j) (I, Lg, Rf, X))) := by
  refine hg_mc k_M_isOne (Nat.le_of_ble_eq_true rfl) ?_
  show hg_WP l E _ Y_M_isOne 0 0 0 [some (.ref (hg_ad E 21 0)), some (.int x)] [] (I, Lg, Rf, X) _
  refine hg_iload1 d_M_isOne_0 ?_
  refine hg_iconst (v := 0) d_M_isOne_1 (by decide) ?_
  refine hg_aload0 d_M_isOne_2 ?_
  refine hg_getI d_M_isOne_3 f_M_108 rfl rfl (hX.lt (n := 1) ⟨by decide, by decide⟩ rfl (by omega)) ?_
  refine hg_eq1 (y := nI n) (hn) ?_
  refine hg_iconst (v := 1) d_M_isOne_6 (by decide) ?_
  refine hg_isub d_M_isOne_7 ?_
  refine hg_cSi d_M_isOne_8 l_M_111 rfl (Nat.le_of_ble_eq_true rfl) (m_M_within) rfl ?_
  rintro _ _ ⟨⟨hc, rfl⟩ | ⟨hc, rfl⟩, rfl⟩
  · refine hg_ireturn d_M_isOne_11 rfl (by decide) ?_
    exact ⟨Or.inl ⟨(hg_in0 (by omega)).mp hc, rfl⟩, rfl⟩
  · refine hg_ireturn d_M_isOne_11 rfl (by decide) ?_
    exact ⟨Or.inr ⟨fun z => hc ((hg_in0 (by omega)).mpr z), rfl⟩, rfl⟩

end M23
