/-! what is asked changes the trial alone -/
section ENV
variable {I I1 I' : Nat → Nat → Nat → Int32} {Rf Rf1 Rf' : Nat → Nat → Nat → Option (Nat × Nat)} {X : Nat × (Nat → Nat) × (Nat → Nat → Nat)} {σ : hs_S} {T : Nat} {tw : hs_W}
def hq_E (T : Nat) (tw : hs_W) (σ : hs_S) (I : Nat → Nat → Nat → Int32) (Rf : Nat → Nat → Nat → Option (Nat × Nat)) (X : Nat × (Nat → Nat) × (Nat → Nat → Nat)) : Prop := hg_XS T X ∧ hg_SR T Rf ∧ hs_C 0 σ I Rf ∧ hs_ok T σ ∧ hc_TW T tw I X
def hg_sc (I' I : Nat → Nat → Nat → Int32) : Prop := ∀ k i, ¬ (hg_tch 1 k i ∨ k = 18) → I' k i = I k i
def hg_rx (Rf' Rf : Nat → Nat → Nat → Option (Nat × Nat)) : Prop := ∀ k i j, ¬ (k = 1 ∧ i = 1 ∧ j = 7) → Rf' k i j = Rf k i j
theorem hg_sc.rf : hg_sc I I := fun _ _ _ => rfl
theorem hg_sc.tr (h : hg_sc I' I1) (h1 : hg_sc I1 I) : hg_sc I' I := fun k i hk => (h k i hk).trans (h1 k i hk)
theorem hg_rx.rf : hg_rx Rf Rf := fun _ _ _ _ => rfl
theorem hg_rx.tr (h : hg_rx Rf' Rf1) (h1 : hg_rx Rf1 Rf) : hg_rx Rf' Rf := fun k i j hk => (h k i j hk).trans (h1 k i j hk)
theorem hg_rx.u3 {q : Option (Nat × Nat)} : hg_rx (hg_u3 Rf 1 1 7 q) Rf := fun k i j hn => by unfold hg_u3; rw [if_neg hn]
theorem hg_fr.sc (h : hg_fr 1 I' I) : hg_sc I' I := fun k i hn => h k i (fun z => hn (Or.inl z))
theorem hg_e6.sc (h : hg_e6 I' I) : hg_sc I' I := fun k i hn => congrFun (h k (fun z => hn (Or.inl (Or.inl z)))) i
theorem hg_sc.u18 {i j : Nat} {x : Int32} (h : hg_sc I' I) : hg_sc (hg_u3 I' 18 i j x) I := fun k q hn => by
  rw [← h k q hn]; funext y; exact hg_u3k (fun z => hn (Or.inr z.1))
theorem hg_SR.rx (h : hg_SR T Rf) (e : hg_rx Rf' Rf) : hg_SR T Rf' := by
  obtain ⟨h1, h2, h3, h4, h5, h6, h7, h8, h9⟩ := h
  refine ⟨fun j q hq => by rw [e 0 0 j (by omega)]; exact h1 j q hq, fun j q hq => by rw [e 21 0 j (by omega)]; exact h2 j q hq, fun s hs => ?_, fun s j hs hj => by rw [e 2 s j (by omega)]; exact h4 s j hs hj, fun i hi => by rw [e 3 i 7 (by omega)]; exact h5 i hi, fun r hr => ?_, ?_, fun j hj => ?_, fun t ht => by rw [e 19 t 0 (by omega)]; exact h9 t ht⟩
  · rw [e 1 s 0 (by omega), e 1 s 1 (by omega), e 1 s 8 (by omega)]; exact h3 s hs
  · rw [e 7 r 0 (by omega), e 7 r 1 (by omega)]; exact h6 r hr
  · rw [e 10 0 0 (by omega), e 10 0 3 (by omega), e 13 0 0 (by omega)]; exact h7
  · rw [e 15 0 j (by omega), e 16 j 2 (by omega)]; exact h8 j hj
theorem hs_C.sc {s : Nat} (h : hs_C s σ I Rf) (hs : s ≠ 1) (hn : hs_n σ ≤ 6) (e : hg_sc I' I) (er : hg_rx Rf' Rf) : hs_C s σ I' Rf' := by
  obtain ⟨h1, h2, h3, h4, h5, h6, h7, h8, h9⟩ := h
  have t1 : ∀ k, (k = 1 ∨ k = 5) → I' k s = I k s := fun k hk => e k s (by unfold hg_tch; omega)
  have t3 : ∀ k h, (k = 3 ∨ k = 4) → h < hs_n σ → I' k (6 * s + h) = I k (6 * s + h) := fun k h hk hh => e k _ (by unfold hg_tch; omega)
  exact ⟨by rw [t1 1 (by omega)]; exact h1, by rw [t1 1 (by omega)]; exact h2, by rw [t1 1 (by omega)]; exact h3, by rw [t1 1 (by omega)]; exact h4, by rw [t1 1 (by omega)]; exact h5, by rw [t1 5 (by omega)]; exact h6, fun h f hh hf => by rw [t3 3 h (by omega) hh]; exact h7 h f hh hf, fun h j hh hj => by rw [t3 4 h (by omega) hh]; exact h8 h j hh hj, by rw [er 1 s 7 (by omega)]; exact h9⟩
theorem hc_TW.sc (h : hc_TW T tw I X) (e : hg_sc I' I) : hc_TW T tw I' X := by
  intro t ht
  rw [e 19 t (by unfold hg_tch; omega), e 20 t (by unfold hg_tch; omega)]
  exact h t ht
theorem hq_E.sc (h : hq_E T tw σ I Rf X) (e : hg_sc I' I) (er : hg_rx Rf' Rf) : hq_E T tw σ I' Rf' X := ⟨h.1, h.2.1.rx er, h.2.2.1.sc (by decide) h.2.2.2.1.1 e er, h.2.2.2.1, h.2.2.2.2.sc e⟩
/-- the answer of what is only asked -/
def hq_A {α : Type} (v r : α) (I : Nat → Nat → Nat → Int32) (Lg : Nat → Nat → Nat → Int64) (Rf : Nat → Nat → Nat → Option (Nat × Nat)) (X : Nat × (Nat → Nat) × (Nat → Nat → Nat)) (M' : hg_M) : Prop := v = r ∧ ∃ (I' : Nat → Nat → Nat → Int32) (Rf' : Nat → Nat → Nat → Option (Nat × Nat)), M' = (I', Lg, Rf', X) ∧ hg_sc I' I ∧ hg_rx Rf' Rf
theorem hs_hov_h5 (o : Option Nat) (h : ∀ x, o = some x → x < 6) : (if hs_hov o < 0 then -5 else hs_hov o) = hs_h5 o := by
  cases o with
  | none => rfl
  | some x =>
    show (if nI x < 0 then _ else nI x) = nI x
    rw [if_neg (nI_pos (by have := h x rfl; omega))]
theorem hs_ho_lt {σ : hs_S} (hO : hs_ok T σ) {x : Nat} (h : hs_ho tw σ = some x) : x < hs_n σ := by
  unfold hs_ho at h
  cases e : hs_hp tw σ with
  | none => rw [e] at h; cases h
  | some i =>
    rw [e] at h
    cases h
    have hi := hs_hp_lt e
    have hp : hs_p σ < hs_n σ := by have := hO.2.1; omega
    exact hO.2.2.1 _ (hg_pl_lt hp (Nat.le_of_lt hi))
theorem hs_hov_eq {o : Option Nat} {h : Nat} (ho : ∀ x, o = some x → x < 6) (hh : h < 6) : hs_hov o = nI h ↔ o = some h := by
  cases o with
  | none =>
    constructor
    · intro e
      have : nI h = -1 := e.symm
      exact absurd this (by have : h = 0 ∨ h = 1 ∨ h = 2 ∨ h = 3 ∨ h = 4 ∨ h = 5 := by omega
                            rcases this with rfl | rfl | rfl | rfl | rfl | rfl <;> decide)
    · intro e; cases e
  | some x =>
    have hx := ho x rfl
    constructor
    · intro e; have := (nI_eq (show x < 2 ^ 31 by omega) (show h < 2 ^ 31 by omega)).mp e; rw [this]
    · intro e; cases e; rfl
end ENV
