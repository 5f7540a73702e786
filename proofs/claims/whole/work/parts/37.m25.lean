/-! the model: sets as bits -/
def hs_mk (f : Nat → Bool) : Nat → Nat
  | 0 => 0
  | k + 1 => if f k = true then hs_mk f k + 2 ^ k else hs_mk f k
theorem hs_mk_lt (f : Nat → Bool) : ∀ k, hs_mk f k < 2 ^ k
  | 0 => Nat.zero_lt_one
  | k + 1 => by have := hs_mk_lt f k; unfold hs_mk; rw [Nat.pow_succ]; split <;> omega
theorem hs_mk_bt (f : Nat → Bool) : ∀ k, k ≤ 6 → ∀ p, p < k → hs_bt (hs_mk f k) p = f p
  | 0, _, p, h => absurd h (Nat.not_lt_zero _)
  | k + 1, hk, p, hp => by
    have hl := hs_mk_lt f k
    unfold hs_mk
    by_cases e : p = k
    · subst e
      split
      · rename_i h; rw [fg_b1 p (by omega) _ hl p (by omega), if_pos rfl, h]
      · rename_i h; rw [fg_b0 p (by omega) _ hl]; simpa using h
    · split
      · rw [fg_b1 k (by omega) _ hl p (by omega), if_neg e]; exact hs_mk_bt f k (by omega) p (by omega)
      · exact hs_mk_bt f k (by omega) p (by omega)
theorem hs_mk_64 {f : Nat → Bool} {n : Nat} (h : n ≤ 6) : hs_mk f n < 64 := Nat.lt_of_lt_of_le (hs_mk_lt f n) (Nat.pow_le_pow_right (by decide) h)
theorem hs_bits_mk (f : Nat → Bool) : ∀ k, k ≤ 6 → hs_bits f k = nI (hs_mk f k)
  | 0, _ => rfl
  | k + 1, hk => by
    have := hs_bits_mk f k (by omega)
    unfold hs_bits hs_mk
    split
    · rw [this, fg_or k (by omega) _ (hs_mk_lt f k)]
    · exact this
section M25
variable {l : Launch} {E : hg_E} {d T : Nat}
variable {I : Nat → Nat → Nat → Int32} {Lg : Nat → Nat → Nat → Int64} {Rf : Nat → Nat → Nat → Option (Nat × Nat)} {X : Nat × (Nat → Nat) × (Nat → Nat → Nat)}
variable {σ : hs_S}
theorem m_M_has {b k : Nat} (hb : b < 64) (hk : k < 6) : hg_MC l E (d + 1) Y_M_has 0 0 [.int (nI b), .int (nI k)] (I, Lg, Rf, X) (hg_i (hg_bo (hs_bt b k = true) (I, Lg, Rf, X))) := by
  refine hg_mc k_M_has (Nat.le_of_ble_eq_true rfl) ?_
  show hg_WP l E _ Y_M_has 0 0 0 [some (.int (nI b)), some (.int (nI k))] [] (I, Lg, Rf, X) _
  refine hg_iload0 d_M_has_0 ?_
  refine hg_iload1 d_M_has_1 ?_
  refine hg_ishr d_M_has_2 ?_
  refine hg_iconst (v := 1) d_M_has_3 (by decide) ?_
  refine hg_iand d_M_has_4 ?_
  refine hg_eq1 (y := if hs_bt b k = true then 1 else 0) (fg_bt b hb k hk) ?_
  refine hg_iconst (v := 1) d_M_has_5 (by decide) ?_
  refine hg_icmp_ne (tgt := 13) d_M_has_6 (by decide) (fun h1 => ?_) (fun h1 => ?_)
  · refine hg_iconst (v := 0) d_M_has_13 (by decide) ?_
    refine hg_ireturn d_M_has_14 rfl (by decide) ?_
    exact ⟨Or.inr ⟨fun z => h1 (if_pos z), rfl⟩, rfl⟩
  · replace h1 := Decidable.not_not.mp h1
    refine hg_iconst (v := 1) d_M_has_9 (by decide) ?_
    refine hg_goto (tgt := 14) d_M_has_10 (by decide) ?_
    refine hg_ireturn d_M_has_14 rfl (by decide) ?_
    refine ⟨Or.inl ⟨?_, rfl⟩, rfl⟩
    exact Classical.byContradiction (fun z => absurd (h1.symm.trans (if_neg z)) (by decide))

end M25
