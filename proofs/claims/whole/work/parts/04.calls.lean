/-! copies, calls, a method's start and its ends -/
section HG2
variable {l : Launch} {E : hg_E} {d : Nat} {Y : hg_Y} {mc ms pc pc' : Nat} {loc : List (Option Value)} {st : List Value} {M : hg_M} {Q : Option Value → hg_M → Prop}
variable {I : Nat → Nat → Nat → Int32} {Lg : Nat → Nat → Nat → Int64} {Rf : Nat → Nat → Nat → Option (Nat × Nat)} {X : Nat × (Nat → Nat) × (Nat → Nat → Nat)}
theorem hg_toInt {z : Int32} (hz : ¬ z < 0) : z.toInt = (z.toNatClampNeg : Int) := by
  have hz0 : (0 : Int) ≤ z.toInt := by
    have := Int32.not_lt.mp hz
    simpa using Int32.le_iff_toInt_le.mp this
  show z.toInt = ((z.toInt.toNat : Nat) : Int)
  omega
/-- a copy, by the cells' contents -/
theorem hg_copyX {α : Type} (mk : α → Value) {f g : Nat → α} {idx k i k0 i0 : Nat} {sp dp n : Int32} {M' : hg_M} (hd : hg_D Y pc pc' 3 (.invokestatic idx)) (hl : Cond.methodLink Y.1.cls idx arraycopyName ∈ hg_T) (hk0 : hg_cl k0 = none) (hi0 : i0 < hg_ct M k0) (hk : hg_cl k = none) (hy : hg_ty k0 = hg_ty k) (hprim : refKind (hg_fty (hg_ty k)) = false) (hi : i < hg_ct M k) (hf : hg_av E M k0 i0 = fun j => mk (f j)) (hg : hg_av E M k i = fun j => mk (g j)) (hmk : ∀ a, fits (hg_fty (hg_ty k)) (mk a) = true) (hmk2 : ∀ a, ∀ q, mk a ≠ .ref q)
    (h1 : ¬ sp < 0) (h2 : ¬ dp < 0) (h3 : ¬ n < 0) (h4 : sp.toNatClampNeg + n.toNatClampNeg ≤ hg_ln M k0 i0) (h5 : dp.toNatClampNeg + n.toNatClampNeg ≤ hg_ln M k i) (hw : (st.map fun v => v.category).sum ≤ 8)
    (hX : M'.2.2.2 = M.2.2.2) (hs : ∀ k' i', ¬ (k' = k ∧ i' = i) → (∀ j, M'.1 k' i' j = M.1 k' i' j) ∧ (∀ j, M'.2.1 k' i' j = M.2.1 k' i' j) ∧ ∀ j, M'.2.2.1 k' i' j = M.2.2.1 k' i' j) (hv : ∀ x, hg_av E M' k i x = mk (va_cpy f g sp.toNatClampNeg dp.toNatClampNeg n.toNatClampNeg x))
    (kk : hg_WP l E d Y mc ms pc' loc st M' Q) : hg_WP l E d Y mc ms pc loc (.int n :: .int dp :: .ref (hg_ad E k i) :: .int sp :: .ref (hg_ad E k0 i0) :: st) M Q := by
  intro p e R s m args below meth c0 H locs cells slots Z ls hF hK hR hP hS hL hz hret
  obtain ⟨hd, rfl⟩ := hd
  obtain ⟨-, lv, hl1, -⟩ := id hL
  have hc0 := hP.arr hk0 hi0
  have hc1 := hP.arr hk hi
  rw [hf] at hc0
  rw [hg] at hc1
  have ha0 := (hK.1.2 _ _ (hg_tys_at E (hg_ty6 k0))).1 (hg_ln M k0 i0) (fun j => mk (f j))
  have ha1 := (hK.1.2 _ _ (hg_tys_at E (hg_ty6 k))).1 (hg_ln M k i) (fun j => mk (g j))
  rw [hy] at hc0 ha0
  obtain ⟨-, q0, hq0, cm0, hqq0⟩ := ha0
  obtain ⟨-, q1, hq1, cm1, hqq1⟩ := ha1
  have e5 : nativeFrameWords "java/lang/System" "arraycopy" 5 + 11 ≤ 32 := by decide
  intro T hT X
  obtain ⟨vm', X', step⟩ := X.arraycopy hF.1 hF.2.2.2.1 (hF.ts hl) (hF.ts hg_cp1) (hF.ts hg_cp2) (hF.ts hg_cp3) (src := hg_ad E k0 i0) (dst := hg_ad E k i) (cs := arrV (hg_cA E (hg_ty k)) (hg_ln M k0 i0) (fun j => mk (f j))) (cd := arrV (hg_cA E (hg_ty k)) (hg_ln M k i) (fun j => mk (g j))) (srcPos := sp) (destPos := dp) (n := n) (by rw [hT]; exact hc0) (by rw [hT]; exact hc1)
    (fun _ h => by cases h) (fun _ h => by cases h) (fun h => by cases h) (fun h => by cases h) hq0 hq1 hqq0 hqq1 (by simp [hprim]) h1 h2 h3
    (by rw [hg_toInt h1, hg_toInt h3]; show ¬ _ > ((arrV _ _ _).slots.size : Int); rw [arrV_size]; omega)
    (by rw [hg_toInt h2, hg_toInt h3]; show ¬ _ > ((arrV _ _ _).slots.size : Int); rw [arrV_size]; omega)
    (fun vm₁ _ i hi => by
      have e : (arrV (hg_cA E (hg_ty k)) (hg_ln M k0 i0) (fun j => mk (f j))).slots.getD (sp.toNatClampNeg + i) .null = mk (f (sp.toNatClampNeg + i)) := by
        rw [Array.getD_eq_getD_getElem?, arrV_read _ _ (by omega)]
        rfl
      refine ⟨?_, ?_⟩
      · rw [e]
        exact hmk _
      · rw [e]
        have := hmk2 (f (sp.toNatClampNeg + i))
        generalize mk (f (sp.toNatClampNeg + i)) = z at this
        cases z <;> first | trivial | exact absurd rfl (this _))
    (g := F0 m pc ls (.int n :: .int dp :: .ref (hg_ad E k i) :: .int sp :: .ref (hg_ad E k0 i0) :: st)) rfl (by rw [hF.2.2.1]; exact hl1.1) (rest := st) rfl (by rw [hF.2.1]; exact hd) (by omega) (by show 2 * 0 + _ + _ ≤ _; omega)
  have e1 : copied (arrV (hg_cA E (hg_ty k)) (hg_ln M k0 i0) (fun j => mk (f j))) (arrV (hg_cA E (hg_ty k)) (hg_ln M k i) (fun j => mk (g j))) sp dp n = arrV (hg_cA E (hg_ty k)) (hg_ln M k i) (fun j => mk (va_cpy f g sp.toNatClampNeg dp.toNatClampNeg n.toNatClampNeg j)) := va_copied mk _ _ f g h4
  rw [e1] at X' step
  have hlt : hg_ad E k i < H.size := hP.lt hi
  generalize hce : arrV (hg_cA E (hg_ty k)) (hg_ln M k i) (fun j => mk (va_cpy f g sp.toNatClampNeg dp.toNatClampNeg n.toNatClampNeg j)) = ce at X' step
  have hheap : ((T.setVm vm').setCell (hg_ad E k i) ce).heap = H.setIfInBounds (hg_ad E k i) ce := by rw [← hT]; rfl
  have oq : ∀ q : Nat, q ≠ hg_ad E k i → (H.setIfInBounds (hg_ad E k i) ce)[q]? = H[q]? := fun q hq => by simp [Array.getElem?_setIfInBounds, Ne.symm hq]
  have hA : hg_A E (hg_ad E k i) := Nat.le_add_right _ _
  obtain ⟨t, a1, b1⟩ := kk p e R s m args below meth c0 _ _ cells slots Z ls hF hK hR (hP.upd (H1 := H.setIfInBounds (hg_ad E k i) ce) (by simp) oq hi hX hs (by
      unfold hg_cell
      rw [hk]
      show (H.setIfInBounds (hg_ad E k i) ce)[hg_ad E k i]? = some (arrV _ (M'.2.2.2.2.2 k i) _)
      rw [hX, ← hce]
      rw [show hg_av E M' k i = fun x => mk (va_cpy f g sp.toNatClampNeg dp.toNatClampNeg n.toNatClampNeg x) from funext hv]
      simp [Array.getElem?_setIfInBounds, hlt])) ⟨by simp; exact hS.1, fun q g1 g2 => by
      rw [oq q (fun e => g2 (by rw [e]; exact hA))]
      exact hS.2.1 q g1 g2, fun q hq => by
      rcases List.mem_append.mp hq with h | h
      · exact hS.2.2 q h
      · obtain ⟨z, -, hz⟩ := List.mem_map.mp h
        rw [← hz]
        exact hA⟩ hL hz hret _ hheap X'
  exact ⟨t, step t a1, b1⟩
theorem hg_copyI {idx k i k0 i0 : Nat} {sp dp n : Int32} (hd : hg_D Y pc pc' 3 (.invokestatic idx)) (hl : Cond.methodLink Y.1.cls idx arraycopyName ∈ hg_T) (hk0 : hg_cl k0 = none) (hy0 : hg_ty k0 = 0) (hi0 : i0 < X.2.1 k0) (hk : hg_cl k = none) (hy : hg_ty k = 0) (hi : i < X.2.1 k) (h1 : ¬ sp < 0) (h2 : ¬ dp < 0) (h3 : ¬ n < 0) (h4 : sp.toNatClampNeg + n.toNatClampNeg ≤ X.2.2 k0 i0) (h5 : dp.toNatClampNeg + n.toNatClampNeg ≤ X.2.2 k i) (hw : (st.map fun v => v.category).sum ≤ 8)
    (kk : hg_WP l E d Y mc ms pc' loc st (hg_cp I k i k0 i0 sp.toNatClampNeg dp.toNatClampNeg n.toNatClampNeg, Lg, Rf, X) Q) : hg_WP l E d Y mc ms pc loc (.int n :: .int dp :: .ref (hg_ad E k i) :: .int sp :: .ref (hg_ad E k0 i0) :: st) (I, Lg, Rf, X) Q := by
  refine hg_copyX (M' := (hg_cp I k i k0 i0 sp.toNatClampNeg dp.toNatClampNeg n.toNatClampNeg, Lg, Rf, X)) Value.int (f := I k0 i0) (g := I k i) hd hl hk0 hi0 hk (hy0.trans hy.symm) (by rw [hy]; rfl) hi (funext fun j => by simp [hg_av, hy0]) (funext fun j => by simp [hg_av, hy]) (fun a => by rw [hy]; rfl) (fun a q h => by cases h) h1 h2 h3 h4 h5 hw rfl (fun k' i' h => ⟨fun j => ?_, fun _ => rfl, fun _ => rfl⟩) (fun x => ?_) kk
  · show hg_cp I k i k0 i0 _ _ _ k' i' j = I k' i' j
    unfold hg_cp
    rw [if_neg (fun q => h ⟨q.1, q.2.1⟩)]
  · simp [hg_av, hy, hg_cp, va_cpy]
theorem hg_copyL {idx k i k0 i0 : Nat} {sp dp n : Int32} (hd : hg_D Y pc pc' 3 (.invokestatic idx)) (hl : Cond.methodLink Y.1.cls idx arraycopyName ∈ hg_T) (hk0 : hg_cl k0 = none) (hy0 : hg_ty k0 = 3) (hi0 : i0 < X.2.1 k0) (hk : hg_cl k = none) (hy : hg_ty k = 3) (hi : i < X.2.1 k) (h1 : ¬ sp < 0) (h2 : ¬ dp < 0) (h3 : ¬ n < 0) (h4 : sp.toNatClampNeg + n.toNatClampNeg ≤ X.2.2 k0 i0) (h5 : dp.toNatClampNeg + n.toNatClampNeg ≤ X.2.2 k i) (hw : (st.map fun v => v.category).sum ≤ 8)
    (kk : hg_WP l E d Y mc ms pc' loc st (I, hg_cp Lg k i k0 i0 sp.toNatClampNeg dp.toNatClampNeg n.toNatClampNeg, Rf, X) Q) : hg_WP l E d Y mc ms pc loc (.int n :: .int dp :: .ref (hg_ad E k i) :: .int sp :: .ref (hg_ad E k0 i0) :: st) (I, Lg, Rf, X) Q := by
  refine hg_copyX (M' := (I, hg_cp Lg k i k0 i0 sp.toNatClampNeg dp.toNatClampNeg n.toNatClampNeg, Rf, X)) Value.long (f := Lg k0 i0) (g := Lg k i) hd hl hk0 hi0 hk (hy0.trans hy.symm) (by rw [hy]; rfl) hi (funext fun j => by simp [hg_av, hy0]) (funext fun j => by simp [hg_av, hy]) (fun a => by rw [hy]; rfl) (fun a q h => by cases h) h1 h2 h3 h4 h5 hw rfl (fun k' i' h => ⟨fun _ => rfl, fun j => ?_, fun _ => rfl⟩) (fun x => ?_) kk
  · show hg_cp Lg k i k0 i0 _ _ _ k' i' j = Lg k' i' j
    unfold hg_cp
    rw [if_neg (fun q => h ⟨q.1, q.2.1⟩)]
  · simp [hg_av, hy, hg_cp, va_cpy]
end HG2
