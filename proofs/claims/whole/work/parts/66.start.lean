/-! how all begins -/
def hs0 : hs_S := (fun _ => 0, fun _ => 0, fun _ _ => 0, fun _ _ => 0, 0)
def hG0 : hs_G := (hs0, hs0, fun _ => (0, fun _ => 0, fun _ => 0), false, (0, fun _ => 0), 0, (0, fun _ => 0), fun _ => (-1, 0, fun _ => 0), fun _ => (fun _ => 0, 60))
theorem hx_cap : ∀ k, k < 26 → k ≠ 19 → k ≠ 20 → hxn 120 k = hg_cap k := by decide +kernel
theorem hx_XS : hg_XS 0 (hxc 120) := by
  refine ⟨rfl, fun k h1 h2 => ?_, by decide +kernel, by decide +kernel, fun k i _ => rfl⟩
  by_cases hk : k < 26
  · exact hx_cap k hk h1 h2
  · show hxn 120 k = _
    rw [hxn_26 (by omega)]
    have e : hg_cap k = 0 := by
      unfold hg_cap
      rw [List.getD_eq_getElem?_getD, List.getElem?_eq_none (by simpa using (show 26 ≤ k by omega))]
      rfl
    exact e.symm
theorem hx_SR : hg_SR 0 hRf2 := by
  refine ⟨fun j q h => ?_, fun j q h => ?_, by decide +kernel, fun s j hs hj => (by decide +kernel : ∀ s, s < 3 → ∀ j, j < 6 → hRf2 2 s j = some (3, 6 * s + j)) s hs j hj, by decide +kernel, by decide +kernel, by decide +kernel, by decide +kernel, fun t ht => ?_⟩
  · unfold hg_rD at h
    split at h <;> first | (cases h; decide +kernel) | cases h
  · unfold hg_rM at h
    split at h <;> first | (cases h; decide +kernel) | cases h
  · obtain rfl : t = 0 := by omega
    decide +kernel
theorem hx_CR : hs_CR hG0 hI2 hL0 hRf2 (hxc 120) := by
  refine ⟨hx_XS, hx_SR, by decide +kernel, ⟨by decide +kernel, by decide +kernel, by decide +kernel, by decide +kernel, by decide +kernel, fun j hj => absurd hj (Nat.not_lt_zero _), fun j f hj => absurd hj (Nat.not_lt_zero _), fun j f hj => absurd hj (Nat.not_lt_zero _), by decide +kernel⟩, fun h => absurd h (by decide), by decide +kernel, fun r hr => ⟨rfl, fun j hj => absurd hj (Nat.not_lt_zero _), fun j hj => absurd hj (Nat.not_lt_zero _)⟩, ⟨by decide +kernel, fun j hj => absurd hj (Nat.not_lt_zero _)⟩, ⟨by decide +kernel, fun j hj => rfl⟩, fun t ht => ?_, fun t ht => ?_⟩
  · have h6 : t = 0 ∨ t = 1 ∨ t = 2 ∨ t = 3 ∨ t = 4 ∨ t = 5 := by omega
    rcases h6 with rfl | rfl | rfl | rfl | rfl | rfl <;> exact ⟨by decide +kernel, by decide +kernel, fun j hj => rfl⟩
  · obtain rfl : t = 0 := Nat.le_zero.mp ht
    exact ⟨by decide +kernel, by decide +kernel, fun f g _ => rfl⟩
theorem hx_MR : hs_MR hG0 hI2 hL0 := by
  refine ⟨⟨⟨by decide +kernel, by decide +kernel, by decide +kernel, by decide +kernel, by decide +kernel, by decide +kernel, fun j hj => absurd hj (Nat.not_lt_zero _), fun j f hj => absurd hj (Nat.not_lt_zero _), fun j f hj => absurd hj (Nat.not_lt_zero _)⟩, ⟨by decide +kernel, fun i hi => absurd hi (Nat.not_lt_zero _)⟩, ⟨by decide +kernel, fun i hi => absurd hi (Nat.not_lt_zero _)⟩, ⟨by decide +kernel, fun i hi => absurd hi (Nat.not_lt_zero _)⟩⟩,
    by decide +kernel, fun h => absurd h (by decide), ⟨by decide +kernel, fun i hi => absurd hi (Nat.not_lt_zero _)⟩, by decide +kernel, ⟨by decide +kernel, fun j hj => rfl⟩, fun t ht => ?_, ⟨by decide, fun _ => rfl, rfl, 0, by decide +kernel, Nat.le_refl _, fun t ht => absurd ht (Nat.not_lt_zero _)⟩⟩
  have h6 : t = 0 ∨ t = 1 ∨ t = 2 ∨ t = 3 ∨ t = 4 ∨ t = 5 := by omega
  rcases h6 with rfl | rfl | rfl | rfl | rfl | rfl <;> exact ⟨by decide +kernel, by decide +kernel, fun j hj => rfl⟩
theorem hx_gok : hs_gok hG0 := by
  refine ⟨⟨by decide, Or.inr ⟨rfl, rfl⟩, fun j hj => absurd hj (Nat.not_lt_zero _), fun i j hi => absurd hi (Nat.not_lt_zero _), fun h hh => absurd hh (Nat.not_lt_zero _), Nat.le_refl _, Nat.le_refl _, Nat.le_refl _⟩, by decide, fun h => absurd h (by decide), fun r _ => Nat.zero_le _, fun k _ => ?_, fun h => absurd h (by decide), Nat.zero_le _, fun j hj => absurd hj (Nat.not_lt_zero _), Nat.zero_le _, Nat.zero_le _, fun t _ => ⟨Nat.zero_le _, Or.inl ⟨rfl, rfl⟩⟩⟩
  exact hs_Lok.emp (a := (0, fun _ => 0, fun _ => 0))
section M54
variable {l : Launch} {E : hg_E} {d : Nat}
theorem m_L_start (hN : E.2.2.2.2.2.1 ≤ 3072) : hg_WP l E (d + 23) Y_L_law 100000 1000000 0 [some (.ref (hg_ex E 0)), none, none, none] [] (hZ0, hL0, hN0, hxc 0) (hg_i (fun v _ => v = 1)) := by
  refine hx_new (m := 0) (k := 0) (i := 0) (by decide +kernel) (by decide) d_L_law_0 n_L_7 rfl (fun _ => rfl) (fun _ => rfl) (by decide) (by decide) ?_
  refine hg_dup d_L_law_3 rfl ?_
  refine hg_callI d_L_law_4 l_L_9 rfl (Nat.le_of_ble_eq_true rfl) (by decide) (m_D_init) rfl ?_
  rintro _ _ ⟨rfl, rfl⟩
  show hg_WP l E _ Y_L_law _ _ 7 [some (.ref (hg_ex E 0)), none, none, none] [.ref (hg_ad E 0 0)] (hI1, hL0, hRf1, hxc 89) _
  refine hg_astore1 d_L_law_7 rfl ?_
  refine hx_new (m := 89) (k := 21) (i := 0) (by decide +kernel) (by decide) d_L_law_8 n_L_10 rfl (fun _ => rfl) (fun _ => rfl) (by decide) (by decide) ?_
  refine hg_dup d_L_law_11 rfl ?_
  refine hg_callI d_L_law_12 l_L_12 rfl (Nat.le_of_ble_eq_true rfl) (by decide) (m_M_init) rfl ?_
  rintro _ _ ⟨rfl, rfl⟩
  show hg_WP l E _ Y_L_law _ _ 15 [some (.ref (hg_ex E 0)), some (.ref (hg_ad E 0 0)), none, none] [.ref (hg_ad E 21 0)] (hI2, hL0, hRf2, hxc 120) _
  refine hg_astore2 d_L_law_15 rfl ?_
  refine hg_iconst (v := 0) d_L_law_16 (by decide) ?_
  refine hg_istore3 d_L_law_17 rfl ?_
  refine m_L_loop hN 512 0 _ _ hG0 hI2 hL0 hRf2 (hxc 120) (by omega) (Nat.zero_le _) (by decide) (by decide) hx_CR hx_MR hx_gok
end M54
