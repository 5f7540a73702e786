/-! the model: a CLAUSE's codes run -/
def me_A : List Bool → (Nat → Int32) → Prop
  | [], _ => True
  | b :: t, A => A t.length = (if b = true then 1 else 0) ∧ me_A t A
theorem me_A.u {A A' : Nat → Int32} : ∀ {s : List Bool}, me_A s A → (∀ i, i < s.length → A' i = A i) → me_A s A'
  | [], _, _ => trivial
  | b :: t, h, e => ⟨(e t.length (by simp)).trans h.1, me_A.u h.2 (fun i hi => e i (by simp; omega))⟩
section M28
variable {l : Launch} {E : hg_E} {d T : Nat}
variable {I : Nat → Nat → Nat → Int32} {Lg : Nat → Nat → Nat → Int64} {Rf : Nat → Nat → Nat → Option (Nat × Nat)} {X : Nat × (Nat → Nat) × (Nat → Nat → Nat)}
variable {σ : hs_S}
end M28
