/-! what a street is, apart from either class; how a THURSDAY goes -/
abbrev hs_S : Type := (Nat → Nat) × (Nat → Nat) × (Nat → Nat → Int32) × (Nat → Nat → Int32) × Nat
abbrev hs_W : Type := Nat → ((Nat → Int32) → Int32) × Int32
abbrev hs_n (σ : hs_S) : Nat := σ.1 0
abbrev hs_p (σ : hs_S) : Nat := σ.1 1
abbrev hs_hu (σ : hs_S) : Nat := σ.1 2
abbrev hs_cl (σ : hs_S) : Nat := σ.1 3
abbrev hs_wk (σ : hs_S) : Nat := σ.1 4
abbrev hs_st (σ : hs_S) : Nat → Nat := σ.2.1
abbrev hs_hv (σ : hs_S) : Nat → Nat → Int32 := σ.2.2.1
abbrev hs_rw (σ : hs_S) : Nat → Nat → Int32 := σ.2.2.2.1
abbrev hs_tn (σ : hs_S) : Nat := σ.2.2.2.2
def hs_m10 (x : Int32) : Int32 := x - x / 10 * 10
def hs_f (σ : hs_S) (h j : Nat) : Int32 := match j with
  | 0 => nI h | 1 => hs_hv σ h 0 | 2 => hs_hv σ h 1 | 3 => hs_hv σ h 3 | 4 => hs_m10 (hs_hv σ h 4) | _ => hs_m10 (nI (hs_wk σ))
def hs_sum (tw : hs_W) (σ : hs_S) (h : Nat) : Int32 := hs_hv σ h 2 + (tw (hs_tn σ)).1 (hs_f σ h)
def hs_rich (σ : hs_S) (h : Nat) : Int32 := if nI (hs_wk σ) - nI (hs_wk σ) / 4 * 4 = 2 then hs_hv σ h 1 else 0
def hs_used (σ : hs_S) (h : Nat) : Int32 := if 3 * hs_hv σ h 4 < 30 then 3 * hs_hv σ h 4 else 30
def hs_d (tw : hs_W) (σ : hs_S) (h : Nat) : Int32 :=
  if hs_hv σ h 0 = 1 then hs_sum tw σ h + hs_rich σ h
  else if hs_hv σ h 0 = 2 then hs_sum tw σ h / 2
  else if hs_hv σ h 0 = 3 then hs_sum tw σ h - hs_used σ h
  else if hs_hv σ h 0 = 4 then (hs_sum tw σ h + hs_rich σ h) * (if hs_hv σ h 4 = 0 then 2 else 1)
  else if hs_hv σ h 0 = 5 then hs_sum tw σ h / 2 + hs_hv σ h 3
  else if hs_hv σ h 0 = 6 then hs_sum tw σ h - hs_used σ h + hs_rw σ h (hs_wk σ % 4)
  else hs_sum tw σ h
def hs_ill (tw : hs_W) (σ : hs_S) (h : Nat) : Prop := ¬ hs_hv σ h 6 = 0 ∨ (tw (hs_tn σ)).2 ≤ hs_d tw σ h
noncomputable def hs_illb (tw : hs_W) (σ : hs_S) (h : Nat) : Bool := @decide (hs_ill tw σ h) (Classical.propDecidable _)
theorem hs_illb_t {tw : hs_W} {σ : hs_S} {h : Nat} (q : hs_ill tw σ h) : hs_illb tw σ h = true := @decide_eq_true _ (Classical.propDecidable _) q
theorem hs_illb_f {tw : hs_W} {σ : hs_S} {h : Nat} (q : ¬ hs_ill tw σ h) : hs_illb tw σ h = false := @decide_eq_false _ (Classical.propDecidable _) q
theorem hs_illb_i {tw : hs_W} {σ : hs_S} {h : Nat} : hs_illb tw σ h = true ↔ hs_ill tw σ h := @decide_eq_true_iff _ (Classical.propDecidable _)
/-- the place i behind p of n -/
def hg_pl (n p i : Nat) : Nat := if p + i < n then p + i else p + i - n
abbrev hs_pl (σ : hs_S) (i : Nat) : Nat := hg_pl (hs_n σ) (hs_p σ) i
/-- from the i-th place behind POINT on, k places: how many are passed until one is not ill -/
noncomputable def hs_hpA (tw : hs_W) (σ : hs_S) : Nat → Nat → Option Nat
  | 0, _ => none
  | k + 1, i => if hs_illb tw σ (hs_st σ (hs_pl σ i)) = true then hs_hpA tw σ k (i + 1) else some i
noncomputable def hs_hp (tw : hs_W) (σ : hs_S) : Option Nat := hs_hpA tw σ (hs_n σ) 0
/-- who is HOST -/
noncomputable def hs_ho (tw : hs_W) (σ : hs_S) : Option Nat := (hs_hp tw σ).map (fun i => hs_st σ (hs_pl σ i))
def hs_u2 (f : Nat → Nat → Int32) (h j : Nat) (x : Int32) : Nat → Nat → Int32 := fun h' j' => if h' = h ∧ j' = j then x else f h' j'
def hs_u1 (f : Nat → Nat) (i x : Nat) : Nat → Nat := fun i' => if i' = i then x else f i'
def hs_m9 (x : Int32) : Int32 := if x < 9 then x else 9
def hs_ow (σ : hs_S) : Nat → Nat → Nat → Int32
  | 0 => hs_hv σ
  | j + 1 => hs_u2 (hs_ow σ j) (hs_st σ (hs_pl σ j)) 3 (hs_m9 (hs_ow σ j (hs_st σ (hs_pl σ j)) 3 + 1))
/-- one thing of it set -/
def hs_sw (σ : hs_S) (w : Nat → Nat → Int32) : hs_S := (σ.1, hs_st σ, w, hs_rw σ, hs_tn σ)
def hs_shv (σ : hs_S) (h f : Nat) (x : Int32) : hs_S := (σ.1, hs_st σ, hs_u2 (hs_hv σ) h f x, hs_rw σ, hs_tn σ)
def hs_ssc (σ : hs_S) (c v : Nat) : hs_S := (hs_u1 σ.1 c v, hs_st σ, hs_hv σ, hs_rw σ, hs_tn σ)
/-- a THURSDAY at which the i-th behind POINT is HOST, but for WEEK -/
def hs_din1 (σ : hs_S) (i : Nat) : hs_S := hs_shv (hs_sw σ (hs_ow σ i)) (hs_st σ (hs_pl σ i)) 4 (hs_ow σ i (hs_st σ (hs_pl σ i)) 4 + 1)
def hs_din2 (σ : hs_S) (h : Nat) : hs_S := if (hs_hv σ h 5 >>> (nI (hs_wk σ % 8) &&& 31)) &&& 1 = 0 then σ else hs_ssc σ 3 (hs_cl σ + 1)
def hs_din3 (σ : hs_S) (h pl : Nat) : hs_S := if 0 < hs_hv σ h 3 then hs_ssc (hs_shv σ h 3 (hs_hv σ h 3 - 1)) 1 pl else hs_ssc σ 1 (if pl + 1 < hs_n σ then pl + 1 else 0)
def hs_din (σ : hs_S) (i : Nat) : hs_S := hs_din3 (hs_din2 (hs_din1 σ i) (hs_st σ (hs_pl σ i))) (hs_st σ (hs_pl σ i)) (hs_pl σ i)
def hs_wk1 (σ : hs_S) : hs_S := hs_ssc σ 4 (hs_wk σ + 1)
noncomputable def hs_thu (tw : hs_W) (σ : hs_S) : hs_S := match hs_hp tw σ with
  | none => hs_wk1 (hs_ssc σ 2 (hs_hu σ + 1))
  | some i => hs_wk1 (hs_din σ i)
noncomputable def hs_th (tw : hs_W) (σ : hs_S) : Nat → hs_S
  | 0 => σ
  | k + 1 => hs_thu tw (hs_th tw σ k)
/-- what always holds of a street -/
def hs_ok (T : Nat) (σ : hs_S) : Prop :=
  hs_n σ ≤ 6 ∧ (hs_p σ < hs_n σ ∨ (hs_p σ = 0 ∧ hs_n σ = 0)) ∧ (∀ j, j < hs_n σ → hs_st σ j < hs_n σ) ∧ (∀ i j, i < hs_n σ → j < hs_n σ → hs_st σ i = hs_st σ j → i = j) ∧
  (∀ h, h < hs_n σ → (∃ k, k ≤ 6 ∧ hs_hv σ h 0 = nI k) ∧ (∃ k, k ≤ hs_wk σ ∧ hs_hv σ h 4 = nI k) ∧ (hs_hv σ h 6 = 0 ∨ hs_hv σ h 6 = 1)) ∧ hs_hu σ ≤ hs_wk σ ∧ hs_cl σ ≤ hs_wk σ ∧ hs_tn σ ≤ T
/-- the scene s holds the street σ -/
def hs_C (s : Nat) (σ : hs_S) (I : Nat → Nat → Nat → Int32) (Rf : Nat → Nat → Nat → Option (Nat × Nat)) : Prop :=
  I 1 s 2 = nI (hs_n σ) ∧ I 1 s 3 = nI (hs_p σ) ∧ I 1 s 4 = nI (hs_hu σ) ∧ I 1 s 5 = nI (hs_cl σ) ∧ I 1 s 6 = nI (hs_wk σ) ∧
  (∀ j, j < hs_n σ → I 5 s j = nI (hs_st σ j)) ∧ (∀ h f, h < hs_n σ → f < 7 → I 3 (6 * s + h) f = hs_hv σ h f) ∧ (∀ h j, h < hs_n σ → j < 4 → I 4 (6 * s + h) j = hs_rw σ h j) ∧ Rf 1 s 7 = some (19, hs_tn σ)
-- a TOWN's steps
def hc_st (f : Nat → Int32) (q : Int32 × Int32) (c : Int32) : Int32 × Int32 :=
  let x := f ((c >>> (3 &&& 31)) &&& 7).toNatClampNeg
  let y := c >>> (6 &&& 31)
  if c &&& 7 = 0 then (q.1, (q.2 <<< (1 &&& 31)) ||| (if x < y then 1 else 0))
  else if c &&& 7 = 1 then (q.1, (q.2 <<< (1 &&& 31)) ||| (if x = y then 1 else 0))
  else if c &&& 7 = 2 then (q.1, (q.2 <<< (1 &&& 31)) ||| (if y < x then 1 else 0))
  else if c &&& 7 = 3 then (q.1, q.2 ^^^ 1)
  else if c &&& 7 = 4 then (q.1, (q.2 >>> (1 &&& 31)) &&& (q.2 ||| (-2)))
  else if c &&& 7 = 5 then (q.1, (q.2 >>> (1 &&& 31)) ||| (q.2 &&& 1))
  else if c &&& 7 = 6 then (q.1 + q.2 * y, 0)
  else (q.1 - q.2 * y, 0)
def hc_ev (cd : Nat → Int32) (f : Nat → Int32) (q : Int32 × Int32) (i : Nat) : Nat → Int32 × Int32
  | 0 => q
  | k + 1 => hc_ev cd f (hc_st f q (cd i)) (i + 1) k
def hc_fear (cd : Nat → Int32) (n : Nat) (f : Nat → Int32) : Int32 := (hc_ev cd f (0, 0) 0 n).1
def hc_TW (T : Nat) (tw : hs_W) (I : Nat → Nat → Nat → Int32) (X : Nat × (Nat → Nat) × (Nat → Nat → Nat)) : Prop := ∀ t, t ≤ T → I 19 t 1 = (tw t).2 ∧ X.2.2 20 t ≤ 100 ∧ ∀ f g : Nat → Int32, (∀ j, j < 6 → f j = g j) → hc_fear (I 20 t) (X.2.2 20 t) f = (tw t).1 g
theorem hg_pl_lt {n p i : Nat} (hp : p < n) (hi : i ≤ n) : hg_pl n p i < n := by
  unfold hg_pl
  split <;> omega
theorem hg_pl_inj {n p i j : Nat} (hp : p < n) (hi : i < n) (hj : j < n) (h : hg_pl n p i = hg_pl n p j) : i = j := by
  unfold hg_pl at h
  split at h <;> split at h <;> omega
theorem hs_hpA_some {tw : hs_W} {σ : hs_S} : ∀ (k i j : Nat), hs_hpA tw σ k i = some j → i ≤ j ∧ j < i + k
  | 0, i, j, h => by cases h
  | k + 1, i, j, h => by
    unfold hs_hpA at h
    split at h
    · have := hs_hpA_some k (i + 1) j h
      omega
    · cases h; omega
theorem hs_hp_lt {tw : hs_W} {σ : hs_S} {i : Nat} (h : hs_hp tw σ = some i) : i < hs_n σ := by
  have := hs_hpA_some _ _ _ h
  omega
theorem hs_n_din2 (σ : hs_S) (h : Nat) : hs_n (hs_din2 σ h) = hs_n σ := by unfold hs_din2; split <;> rfl
theorem hs_st_din2 (σ : hs_S) (h : Nat) : hs_st (hs_din2 σ h) = hs_st σ := by unfold hs_din2; split <;> rfl
theorem hs_hv_din2 (σ : hs_S) (h : Nat) : hs_hv (hs_din2 σ h) = hs_hv σ := by unfold hs_din2; split <;> rfl
theorem hs_wk_din2 (σ : hs_S) (h : Nat) : hs_wk (hs_din2 σ h) = hs_wk σ := by unfold hs_din2; split <;> rfl
theorem hs_din_all (σ : hs_S) (i : Nat) : hs_n (hs_din σ i) = hs_n σ ∧ hs_st (hs_din σ i) = hs_st σ ∧ hs_wk (hs_din σ i) = hs_wk σ ∧ hs_tn (hs_din σ i) = hs_tn σ ∧ hs_hu (hs_din σ i) = hs_hu σ ∧ hs_rw (hs_din σ i) = hs_rw σ := by
  unfold hs_din hs_din3 hs_din2
  split <;> split <;> exact ⟨rfl, rfl, rfl, rfl, rfl, rfl⟩
theorem hs_thu_all (tw : hs_W) (σ : hs_S) : hs_n (hs_thu tw σ) = hs_n σ ∧ hs_st (hs_thu tw σ) = hs_st σ ∧ hs_wk (hs_thu tw σ) = hs_wk σ + 1 ∧ hs_tn (hs_thu tw σ) = hs_tn σ ∧ hs_rw (hs_thu tw σ) = hs_rw σ := by
  unfold hs_thu
  split
  · exact ⟨rfl, rfl, rfl, rfl, rfl⟩
  · rename_i i _
    obtain ⟨h1, h2, h3, h4, h5, h6⟩ := hs_din_all σ i
    refine ⟨h1, h2, ?_, h4, h6⟩
    show hs_wk (hs_din σ i) + 1 = _
    rw [h3]
theorem hs_ow_oth (σ : hs_S) : ∀ (j h f : Nat), f ≠ 3 → hs_ow σ j h f = hs_hv σ h f
  | 0, h, f, _ => rfl
  | j + 1, h, f, hf => by
    unfold hs_ow hs_u2
    rw [if_neg (fun q => hf q.2)]
    exact hs_ow_oth σ j h f hf
theorem hs_ok.din {T : Nat} {σ : hs_S} (hO : hs_ok T σ) {i : Nat} (hi : i < hs_n σ) : hs_ok T (hs_wk1 (hs_din σ i)) := by
  obtain ⟨h1, h2, h3, h4, h5, h6, h7, h8⟩ := hO
  obtain ⟨g1, g2, g3, g4, g5, g6⟩ := hs_din_all σ i
  have hp : hs_p σ < hs_n σ := by omega
  have hpl := hg_pl_lt hp (Nat.le_of_lt hi)
  have k1 : hs_n (hs_wk1 (hs_din σ i)) = hs_n σ := g1
  have k2 : hs_st (hs_wk1 (hs_din σ i)) = hs_st σ := g2
  have k3 : hs_wk (hs_wk1 (hs_din σ i)) = hs_wk σ + 1 := by show hs_wk (hs_din σ i) + 1 = _; rw [g3]
  have k4 : hs_tn (hs_wk1 (hs_din σ i)) = hs_tn σ := g4
  have k5 : hs_hu (hs_wk1 (hs_din σ i)) = hs_hu σ := g5
  have k6 : hs_hv (hs_wk1 (hs_din σ i)) = hs_hv (hs_din σ i) := rfl
  have k7 : hs_cl (hs_wk1 (hs_din σ i)) = hs_cl (hs_din σ i) := rfl
  have k8 : hs_p (hs_wk1 (hs_din σ i)) = hs_p (hs_din σ i) := rfl
  have e1 : ∀ h f, f ≠ 3 → f ≠ 4 → hs_hv (hs_din σ i) h f = hs_hv σ h f := by
    intro h f f3 f4
    have e0 : hs_hv (hs_din1 σ i) h f = hs_hv σ h f := by
      show hs_u2 (hs_ow σ i) _ 4 _ h f = _
      unfold hs_u2
      rw [if_neg (fun q => f4 q.2)]
      exact hs_ow_oth σ i h f f3
    unfold hs_din hs_din3
    split
    · show hs_u2 (hs_hv (hs_din2 _ _)) _ 3 _ h f = _
      unfold hs_u2
      rw [if_neg (fun q => f3 q.2), hs_hv_din2, e0]
    · show hs_hv (hs_din2 _ _) h f = _
      rw [hs_hv_din2, e0]
  have e4 : ∀ h, hs_hv (hs_din σ i) h 4 = if h = hs_st σ (hs_pl σ i) then hs_hv σ h 4 + 1 else hs_hv σ h 4 := by
    intro h
    have e0 : hs_hv (hs_din1 σ i) h 4 = if h = hs_st σ (hs_pl σ i) then hs_hv σ h 4 + 1 else hs_hv σ h 4 := by
      show hs_u2 (hs_ow σ i) _ 4 _ h 4 = _
      unfold hs_u2
      by_cases e : h = hs_st σ (hs_pl σ i)
      · subst e; rw [if_pos ⟨rfl, rfl⟩, if_pos rfl, hs_ow_oth σ i _ 4 (by decide)]
      · rw [if_neg (fun q => e q.1), if_neg e, hs_ow_oth σ i _ 4 (by decide)]
    unfold hs_din hs_din3
    split
    · show hs_u2 (hs_hv (hs_din2 _ _)) _ 3 _ h 4 = _
      unfold hs_u2
      rw [if_neg (fun q => absurd q.2 (by decide)), hs_hv_din2, e0]
    · show hs_hv (hs_din2 _ _) h 4 = _
      rw [hs_hv_din2, e0]
  have ecl : hs_cl (hs_din σ i) ≤ hs_cl σ + 1 := by
    have e0 : hs_cl (hs_din2 (hs_din1 σ i) (hs_st σ (hs_pl σ i))) ≤ hs_cl σ + 1 := by
      unfold hs_din2
      split
      · show hs_cl σ ≤ _; omega
      · show hs_cl σ + 1 ≤ _; omega
    unfold hs_din hs_din3
    split <;> exact e0
  have ep : hs_p (hs_din σ i) < hs_n σ := by
    unfold hs_din hs_din3
    split
    · exact hpl
    · show (if hs_pl σ i + 1 < hs_n (hs_din2 _ _) then hs_pl σ i + 1 else 0) < _
      rw [hs_n_din2]
      have : hs_n (hs_din1 σ i) = hs_n σ := rfl
      rw [this]
      split <;> omega
  refine ⟨by rw [k1]; exact h1, Or.inl (by rw [k8, k1]; exact ep), by rw [k1, k2]; exact h3, by rw [k1, k2]; exact h4, fun h hh => ?_, by rw [k5, k3]; omega, by rw [k7, k3]; omega, by rw [k4]; exact h8⟩
  rw [k1] at hh
  obtain ⟨q1, ⟨kd, q2, q3⟩, q4⟩ := h5 h hh
  rw [k6, k3]
  refine ⟨by rw [e1 h 0 (by decide) (by decide)]; exact q1, ?_, by rw [e1 h 6 (by decide) (by decide)]; exact q4⟩
  rw [e4]
  split
  · exact ⟨kd + 1, by omega, by rw [q3, nI_1]⟩
  · exact ⟨kd, by omega, q3⟩
theorem hs_ok.thu {T : Nat} {tw : hs_W} {σ : hs_S} (hO : hs_ok T σ) : hs_ok T (hs_thu tw σ) := by
  unfold hs_thu
  split
  · obtain ⟨h1, h2, h3, h4, h5, h6, h7, h8⟩ := hO
    refine ⟨h1, h2, h3, h4, fun h hh => ?_, by show hs_hu σ + 1 ≤ hs_wk σ + 1; omega, by show hs_cl σ ≤ hs_wk σ + 1; omega, h8⟩
    obtain ⟨q1, ⟨kd, q2, q3⟩, q4⟩ := h5 h hh
    exact ⟨q1, ⟨kd, by show kd ≤ hs_wk σ + 1; omega, q3⟩, q4⟩
  · rename_i i hi
    exact hO.din (hs_hp_lt hi)
theorem hs_th_all {T : Nat} {tw : hs_W} {σ : hs_S} (hO : hs_ok T σ) : ∀ k, hs_ok T (hs_th tw σ k) ∧ hs_wk (hs_th tw σ k) = hs_wk σ + k ∧ hs_n (hs_th tw σ k) = hs_n σ ∧ hs_st (hs_th tw σ k) = hs_st σ
  | 0 => ⟨hO, rfl, rfl, rfl⟩
  | k + 1 => by
    obtain ⟨h1, h2, h3, h4⟩ := hs_th_all hO k
    obtain ⟨g1, g2, g3, g4, g5⟩ := hs_thu_all tw (hs_th tw σ k)
    exact ⟨h1.thu, by show hs_wk (hs_thu tw _) = _; rw [g3, h2]; omega, by show hs_n (hs_thu tw _) = _; rw [g1, h3], by show hs_st (hs_thu tw _) = _; rw [g2, h4]⟩
