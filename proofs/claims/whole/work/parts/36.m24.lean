/-! the model's cells, one of them set -/
section M24
variable {l : Launch} {E : hg_E} {d T : Nat}
variable {I : Nat → Nat → Nat → Int32} {Lg : Nat → Nat → Nat → Int64} {Rf : Nat → Nat → Nat → Option (Nat × Nat)} {X : Nat × (Nat → Nat) × (Nat → Nat → Nat)}
variable {σ : hs_S} {I' : Nat → Nat → Nat → Int32}
theorem hs_MS.shv (h : hs_MS σ I) {p f : Nat} {x : Int32} (hf : f < 7) : hs_MS (hs_shv σ p f x) (hg_u3 I 22 f p x) := by
  obtain ⟨h1, h2, h3, h4, h5, h6, h7, h8, h9⟩ := h
  have e : hg_u3 I 22 f p x 21 = I 21 := by funext a b; exact hg_u3k (by omega)
  refine ⟨by rw [e]; exact h1, by rw [e]; exact h2, by rw [e]; exact h3, by rw [e]; exact h4, by rw [e]; exact h5, by rw [e]; exact h6, fun j hj => (congrFun (funext fun _ => hg_u3k (by omega) : hg_u3 I 22 f p x 22 8 = I 22 8) j).trans (h7 j hj), fun q g hq hg => ?_, fun q j hq hj => (hg_u3k (by omega)).trans (h9 q j hq hj)⟩
  show hg_u3 I 22 f p x 22 g q = hs_u2 (hs_hv σ) p f x q g
  unfold hg_u3 hs_u2
  by_cases z : q = p ∧ g = f
  · rw [if_pos z, if_pos ⟨rfl, z.2, z.1⟩]
  · rw [if_neg z, if_neg (fun y => z ⟨y.2.2, y.2.1⟩)]
    exact h8 q g hq hg
theorem hs_MS.sst (h : hs_MS σ I) {p x : Nat} : hs_MS (hs_sst σ (hs_u1 (hs_st σ) p x)) (hg_u3 I 22 8 p (nI x)) := by
  obtain ⟨h1, h2, h3, h4, h5, h6, h7, h8, h9⟩ := h
  have e : hg_u3 I 22 8 p (nI x) 21 = I 21 := by funext a b; exact hg_u3k (by omega)
  refine ⟨by rw [e]; exact h1, by rw [e]; exact h2, by rw [e]; exact h3, by rw [e]; exact h4, by rw [e]; exact h5, by rw [e]; exact h6, fun j hj => ?_, fun q g hq hg => (hg_u3k (by omega)).trans (h8 q g hq hg), fun q j hq hj => (hg_u3k (by omega)).trans (h9 q j hq hj)⟩
  show hg_u3 I 22 8 p (nI x) 22 8 j = nI (if j = p then x else hs_st σ j)
  unfold hg_u3
  by_cases z : j = p
  · rw [if_pos ⟨rfl, rfl, z⟩, if_pos z]
  · rw [if_neg (fun y => z y.2.2), if_neg z]
    exact h7 j hj
theorem hs_MS.srw (h : hs_MS σ I) {p f : Nat} {x : Int32} (hf : f < 4) : hs_MS (hs_srw σ p f x) (hg_u3 I 22 7 (4 * p + f) x) := by
  obtain ⟨h1, h2, h3, h4, h5, h6, h7, h8, h9⟩ := h
  have e : hg_u3 I 22 7 (4 * p + f) x 21 = I 21 := by funext a b; exact hg_u3k (by omega)
  refine ⟨by rw [e]; exact h1, by rw [e]; exact h2, by rw [e]; exact h3, by rw [e]; exact h4, by rw [e]; exact h5, by rw [e]; exact h6, fun j hj => (hg_u3k (by omega)).trans (h7 j hj), fun q g hq hg => (hg_u3k (by omega)).trans (h8 q g hq hg), fun q j hq hj => ?_⟩
  show hg_u3 I 22 7 (4 * p + f) x 22 7 (4 * q + j) = hs_u2 (hs_rw σ) p f x q j
  unfold hg_u3 hs_u2
  by_cases z : q = p ∧ j = f
  · rw [if_pos z, if_pos ⟨rfl, rfl, by omega⟩]
  · rw [if_neg z, if_neg (fun y => z (by omega))]
    exact h9 q j hq hj
theorem hs_MS.ssc (h : hs_MS σ I) {c v : Nat} (hc : 1 ≤ c) (hc2 : c ≤ 4) : hs_MS (hs_ssc σ c v) (hg_u3 I 21 0 (9 + c) (nI v)) := by
  obtain ⟨h1, h2, h3, h4, h5, h6, h7, h8, h9⟩ := h
  have e : hg_u3 I 21 0 (9 + c) (nI v) 22 = I 22 := by funext a b; exact hg_u3k (by omega)
  have key : ∀ q, 1 ≤ q → I 21 0 (9 + q) = nI (σ.1 q) → hg_u3 I 21 0 (9 + c) (nI v) 21 0 (9 + q) = nI ((hs_ssc σ c v).1 q) := by
    intro q hq hI
    show (if _ then _ else _) = nI (if q = c then v else σ.1 q)
    by_cases z : q = c
    · subst z; rw [if_pos ⟨rfl, rfl, rfl⟩, if_pos rfl]
    · rw [if_neg (fun y => z (by omega)), if_neg z]; exact hI
  have k0 : hs_n (hs_ssc σ c v) = hs_n σ := by show (if 0 = c then v else σ.1 0) = _; rw [if_neg (by omega)]
  refine ⟨?_, key 1 (by omega) h2, key 2 (by omega) h3, key 3 (by omega) h4, key 4 (by omega) h5, ?_, ?_, ?_, ?_⟩
  · rw [k0]; show (if _ then _ else I 21 0 0) = _; rw [if_neg (by omega)]; exact h1
  · show (if _ then _ else I 21 0 21) = _; rw [if_neg (by omega)]; exact h6
  · rw [k0, e]; exact h7
  · rw [k0, e]; exact h8
  · rw [k0, e]; exact h9
theorem hs_MS.kp (h : hs_MS σ I) (e1 : ∀ j, j = 0 ∨ j = 10 ∨ j = 11 ∨ j = 12 ∨ j = 13 ∨ j = 21 → I' 21 0 j = I 21 0 j) (e2 : ∀ r, r < 9 → I' 22 r = I 22 r) : hs_MS σ I' := by
  obtain ⟨h1, h2, h3, h4, h5, h6, h7, h8, h9⟩ := h
  exact ⟨by rw [e1 0 (by omega)]; exact h1, by rw [e1 10 (by omega)]; exact h2, by rw [e1 11 (by omega)]; exact h3, by rw [e1 12 (by omega)]; exact h4, by rw [e1 13 (by omega)]; exact h5, by rw [e1 21 (by omega)]; exact h6, by rw [e2 8 (by omega)]; exact h7, fun q g hq hg => by rw [e2 g (by omega)]; exact h8 q g hq hg, by rw [e2 7 (by omega)]; exact h9⟩
theorem m_M_swaps {i j : Nat} (hX : hg_XS T X) (hR : hg_SR T Rf) (hM : hs_MS σ I) (hO : hs_ok T σ) (hi : i < hs_n σ) (hj : j < hs_n σ) : hg_MC l E (d + 2) Y_M_swaps 0 0 [.ref (hg_ad E 21 0), .int (nI (hs_st σ i)), .int (nI (hs_st σ j))] (I, Lg, Rf, X) (hg_v (fun M' => ∃ I' : Nat → Nat → Nat → Int32, M' = (I', Lg, Rf, X) ∧ hs_MS (hs_sw2 σ i j) I' ∧ ∀ k q, ¬ (k = 22 ∧ q = 8) → I' k q = I k q)) := by
  have hn6 := hO.1
  refine hg_mc k_M_swaps (Nat.le_of_ble_eq_true rfl) ?_
  show hg_WP l E _ Y_M_swaps 0 0 0 [some (.ref (hg_ad E 21 0)), some (.int (nI (hs_st σ i))), some (.int (nI (hs_st σ j))), none, none] [] (I, Lg, Rf, X) _
  refine hg_aload0 d_M_swaps_0 ?_
  refine hg_iload1 d_M_swaps_1 ?_
  refine hg_cVi d_M_swaps_2 l_M_129 rfl rfl (hX.lt (n := 1) ⟨by decide, by decide⟩ rfl (by omega)) rfl (Nat.le_of_ble_eq_true rfl) (m_M_placeOf hX hR hM hO hi) rfl ?_
  rintro _ _ ⟨rfl, rfl⟩
  refine hg_istore3 d_M_swaps_5 rfl ?_
  refine hg_aload0 d_M_swaps_6 ?_
  refine hg_iload2 d_M_swaps_7 ?_
  refine hg_cVi d_M_swaps_8 l_M_129 rfl rfl (hX.lt (n := 1) ⟨by decide, by decide⟩ rfl (by omega)) rfl (Nat.le_of_ble_eq_true rfl) (m_M_placeOf hX hR hM hO hj) rfl ?_
  rintro _ _ ⟨rfl, rfl⟩
  refine hg_istore4 d_M_swaps_11 rfl ?_
  refine hg_aload0 d_M_swaps_13 ?_
  refine hg_getR d_M_swaps_14 f_M_36 rfl rfl (hX.lt (n := 1) ⟨by decide, by decide⟩ rfl (by omega)) (hR.m (j := 9) (q := (22, 8)) rfl) ?_
  refine hg_iload3 d_M_swaps_17 ?_
  refine hg_iload2 d_M_swaps_18 ?_
  refine hg_iast_n (j := i) d_M_swaps_19 rfl rfl (hX.lt (n := 28) ⟨by decide, by decide⟩ rfl (by omega)) (hX.jn (n := 6) (by decide) rfl (by omega)) ?_
  refine hg_aload0 d_M_swaps_20 ?_
  refine hg_getR d_M_swaps_21 f_M_36 rfl rfl (hX.lt (n := 1) ⟨by decide, by decide⟩ rfl (by omega)) (hR.m (j := 9) (q := (22, 8)) rfl) ?_
  refine hg_iload4 d_M_swaps_24 ?_
  refine hg_iload1 d_M_swaps_26 ?_
  refine hg_iast_n (j := j) d_M_swaps_27 rfl rfl (hX.lt (n := 28) ⟨by decide, by decide⟩ rfl (by omega)) (hX.jn (n := 6) (by decide) rfl (by omega)) ?_
  refine hg_return d_M_swaps_28 rfl ?_
  exact ⟨_, rfl, (hM.sst (p := i) (x := hs_st σ j)).sst (p := j) (x := hs_st σ i), fun k q hn => by funext a; rw [hg_u3k (by omega), hg_u3k (by omega)]⟩

end M24
