/-! the model: a CLAUSE's codes run -/
def me_A : List Bool → (Nat → Int32) → Prop
  | [], _ => True
  | b :: t, A => A t.length = (if b = true then 1 else 0) ∧ me_A t A
theorem me_A.u {A A' : Nat → Int32} : ∀ {s : List Bool}, me_A s A → (∀ i, i < s.length → A' i = A i) → me_A s A'
  | [], _, _ => trivial
  | b :: t, h, e => ⟨(e t.length (by simp)).trans h.1, me_A.u h.2 (fun i hi => e i (by simp; omega))⟩
section M28
variable {l : Launch} {E : hg_E} {d T : Nat}
variable {I : Nat → Nat → Nat → Int32} {Lg : Nat → Nat → Nat → Int64} {Rf : Nat → Nat → Nat → Option (Nat × Nat)} {X : Nat × (Nat → Nat) × (Nat → Nat → Nat)}
variable {σ : hs_S}
theorem m_M_isTrue_loop {p cl w k : Nat} {den : (Nat → Int32) → Bool} (hX : hg_XS T X) (hR : hg_SR T Rf) (hM : hs_MS σ I) (hO : hs_ok T σ) (hp : p < hs_n σ) (hcl : cl < 61) (hb : I 22 13 cl = nI w) (hl : I 22 14 cl = nI k) (hwk : w + k ≤ 800) (hk : k ≤ 100) (hE : ps_me (I 22 15) w k den) : ∀ (r i : Nat) (s : List Bool) (a5 a6 a7 a8 : Option Value) (I1 : Nat → Nat → Nat → Int32), i + r = w + k → w ≤ i → s.length + r ≤ 105 → me_dep (I 22 15) i r s.length = some 1 → me_ev (I 22 15) (hs_f σ p) s i r = [den (hs_N (hs_f σ p))] → me_A s (I1 24 0) → (∀ q, q ≠ 24 → I1 q = I q) → hg_WP l E (d + 1) Y_M_isTrue 0 0 10 [some (.ref (hg_ad E 21 0)), some (.int (nI p)), some (.int (nI cl)), some (.int (nI s.length)), some (.int (nI i)), a5, a6, a7, a8] [] (I1, Lg, Rf, X) (hg_i (fun v M' => ∃ I' : Nat → Nat → Nat → Int32, v = (if den (hs_N (hs_f σ p)) = true then 1 else 0) ∧ M' = (I', Lg, Rf, X) ∧ ∀ q, q ≠ 24 → I' q = I q)) := by
  have hn6 := hO.1
  intro r
  induction r with
  | zero =>
    intro i s a5 a6 a7 a8 I1 hir hwi hsl hd he hA hq
    obtain rfl : i = w + k := by omega
    have hs1 : s = [den (hs_N (hs_f σ p))] := he
    subst hs1
    refine hg_iload4 d_M_isTrue_10 ?_
    refine hg_aload0 d_M_isTrue_12 ?_
    refine hg_getR d_M_isTrue_13 f_M_51 rfl rfl (hX.lt (n := 1) ⟨by decide, by decide⟩ rfl (by omega)) (hR.m (j := 25) (q := (22, 13)) rfl) ?_
    refine hg_iload2 d_M_isTrue_16 ?_
    refine hg_iald_n (j := cl) d_M_isTrue_17 rfl rfl (hX.lt (n := 28) ⟨by decide, by decide⟩ rfl (by omega)) (hX.jn (n := 61) (by decide) rfl (by omega)) ?_
    refine hg_eq1 (y := nI w) (by rw [hq 22 (by decide)]; exact hb) ?_
    refine hg_aload0 d_M_isTrue_18 ?_
    refine hg_getR d_M_isTrue_19 f_M_54 rfl rfl (hX.lt (n := 1) ⟨by decide, by decide⟩ rfl (by omega)) (hR.m (j := 26) (q := (22, 14)) rfl) ?_
    refine hg_iload2 d_M_isTrue_22 ?_
    refine hg_iald_n (j := cl) d_M_isTrue_23 rfl rfl (hX.lt (n := 28) ⟨by decide, by decide⟩ rfl (by omega)) (hX.jn (n := 61) (by decide) rfl (by omega)) ?_
    refine hg_eq1 (y := nI k) (by rw [hq 22 (by decide)]; exact hl) ?_
    refine hg_iadd d_M_isTrue_24 ?_
    refine hg_eq1 (y := nI (w + k)) (nI_add _ _) ?_
    refine hg_icmp_ge (tgt := 251) d_M_isTrue_25 (by decide) (fun h_1 => ?_) (fun h_1 => absurd (Int32.le_refl _) h_1)
    refine hg_aload0 d_M_isTrue_251 ?_
    refine hg_getR d_M_isTrue_252 f_M_60 rfl rfl (hX.lt (n := 1) ⟨by decide, by decide⟩ rfl (by omega)) (hR.m (j := 29) (q := (24, 0)) rfl) ?_
    refine hg_iconst (v := 0) d_M_isTrue_255 (by decide) ?_
    refine hg_zald_n (j := 0) d_M_isTrue_256 rfl rfl (hX.lt (n := 1) ⟨by decide, by decide⟩ rfl (by omega)) (hX.jn (n := 110) (by decide) rfl (by omega)) ?_
    refine hg_eq1 (y := if den (hs_N (hs_f σ p)) = true then 1 else 0) (hA.1) ?_
    refine hg_ireturn d_M_isTrue_257 rfl (by split <;> rfl) ?_
    exact ⟨I1, rfl, rfl, hq⟩
  | succ r ih =>
    intro i s a5 a6 a7 a8 I1 hir hwi hsl hd he hA hq
    sorry
end M28
