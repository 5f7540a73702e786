/-! HangmanDinner: feigning -/
theorem fg_bt : ∀ s, s < 64 → ∀ p, p < 6 → ((nI s >>> (nI p &&& 31)) &&& 1) = if hs_bt s p = true then 1 else 0 := by decide +kernel
theorem fg_flip : ∀ s, s < 64 → ∀ p, p < 6 → nI s ^^^ ((1 : Int32) <<< (nI p &&& 31)) = nI (hs_flip s p) ∧ hs_flip s p < 64 := by decide +kernel
theorem fg_or : ∀ p, p < 6 → ∀ a, a < 2 ^ p → nI a ||| ((1 : Int32) <<< (nI p &&& 31)) = nI (a + 2 ^ p) := by decide +kernel
theorem fg_sub : ∀ s, s < 64 → ∀ o, o < 64 → (nI s &&& (nI o ^^^ (-1)) = 0 ↔ hs_sub s o = true) := by decide +kernel
theorem fg_le : ∀ s, s < 64 → ∀ o, o < 64 → hs_sub s o = true → s ≤ o := by decide +kernel
theorem fg_fb : ∀ s, s < 64 → ∀ p, p < 6 → ∀ q, q < 6 → hs_bt (hs_flip s p) q = if q = p then !hs_bt s q else hs_bt s q := by decide +kernel
theorem fg_b1 : ∀ p, p < 6 → ∀ a, a < 2 ^ p → ∀ q, q < 6 → hs_bt (a + 2 ^ p) q = if q = p then true else hs_bt a q := by decide +kernel
theorem fg_b0 : ∀ p, p < 6 → ∀ a, a < 2 ^ p → hs_bt a p = false := by decide +kernel
theorem fg_subf {s o p : Nat} (hs : s < 64) (hp : p < 6) (h : hs_sub s o = true) (hb : hs_bt o p = true) : hs_sub (hs_flip s p) o = true := by
  unfold hs_sub at h ⊢
  rw [List.all_eq_true] at h ⊢
  intro q hq
  have hq6 := List.mem_range.mp hq
  have := h q hq
  rw [fg_fb s hs p hp q hq6]
  by_cases e : q = p
  · subst e; rw [hb]; simp
  · rw [if_neg e]; exact this
theorem hs_opn_lt (σ : hs_S) : ∀ k, hs_opn σ k < 2 ^ k
  | 0 => Nat.zero_lt_one
  | k + 1 => by have := hs_opn_lt σ k; unfold hs_opn; rw [Nat.pow_succ]; split <;> omega
theorem hs_opn_bt (σ : hs_S) : ∀ k, k ≤ 6 → ∀ p, p < k → (hs_bt (hs_opn σ k) p = true ↔ hs_hv σ p 6 = 0)
  | 0, _, p, h => absurd h (Nat.not_lt_zero _)
  | k + 1, hk, p, hp => by
    have hl := hs_opn_lt σ k
    unfold hs_opn
    by_cases e : p = k
    · subst e
      split
      · rename_i h; rw [fg_b1 p (by omega) _ hl p (by omega), if_pos rfl]; simp [h]
      · rename_i h; rw [fg_b0 p (by omega) _ hl]; simp [h]
    · split
      · rw [fg_b1 k (by omega) _ hl p (by omega), if_neg e]; exact hs_opn_bt σ k (by omega) p (by omega)
      · exact hs_opn_bt σ k (by omega) p (by omega)
theorem hs_opn_64 {σ : hs_S} {n : Nat} (h : n ≤ 6) : hs_opn σ n < 64 := Nat.lt_of_lt_of_le (hs_opn_lt σ n) (Nat.pow_le_pow_right (by decide) h)
/-- the first k of the set shut; the first k as they were -/
def hs_shsk (σ : hs_S) (s k : Nat) : hs_S := (σ.1, hs_st σ, (fun h f => if f = 6 ∧ h < k ∧ hs_bt s h = true then 1 else hs_hv σ h f), hs_rw σ, hs_tn σ)
def hs_shbk (σ0 σ : hs_S) (k : Nat) : hs_S := (σ.1, hs_st σ, (fun h f => if f = 6 ∧ h < k then hs_hv σ0 h 6 else hs_hv σ h f), hs_rw σ, hs_tn σ)

section M12
variable {l : Launch} {E : hg_E} {d T : Nat}
variable {I : Nat → Nat → Nat → Int32} {Lg : Nat → Nat → Nat → Int64} {Rf : Nat → Nat → Nat → Option (Nat × Nat)} {X : Nat × (Nat → Nat) × (Nat → Nat → Nat)}
variable {tw : hs_W} {σ : hs_S}
variable {I1 I2 : Nat → Nat → Nat → Int32} {Rf1 Rf2 : Nat → Nat → Nat → Option (Nat × Nat)}
theorem hs_hx {σ τ : hs_S} (h1 : σ.1 = τ.1) (h2 : hs_st σ = hs_st τ) (h3 : ∀ h f, hs_hv σ h f = hs_hv τ h f) (h4 : hs_rw σ = hs_rw τ) (h5 : hs_tn σ = hs_tn τ) : σ = τ := by
  obtain ⟨a, b, c, d, e⟩ := σ
  obtain ⟨a', b', c', d', e'⟩ := τ
  obtain rfl : a = a' := h1
  obtain rfl : b = b' := h2
  obtain rfl : c = c' := by funext h f; exact h3 h f
  obtain rfl : d = d' := h4
  obtain rfl : e = e' := h5
  rfl
theorem hs_shsk_s {s k : Nat} (h : hs_bt s k = true) : hs_shv (hs_shsk σ s k) k 6 1 = hs_shsk σ s (k + 1) := by
  refine hs_hx rfl rfl (fun h' f => ?_) rfl rfl
  show hs_u2 _ k 6 1 h' f = (if f = 6 ∧ h' < k + 1 ∧ hs_bt s h' = true then 1 else hs_hv σ h' f)
  unfold hs_u2
  by_cases e : h' = k ∧ f = 6
  · obtain ⟨rfl, rfl⟩ := e; rw [if_pos ⟨rfl, rfl⟩, if_pos ⟨rfl, Nat.lt_succ_self _, h⟩]
  · rw [if_neg e]
    show (if _ then _ else _) = _
    by_cases g : f = 6 ∧ h' < k ∧ hs_bt s h' = true
    · rw [if_pos g, if_pos ⟨g.1, by omega, g.2.2⟩]
    · rw [if_neg g, if_neg (fun z => g ⟨z.1, by have : h' ≠ k := fun q => e ⟨q, z.1⟩; omega, z.2.2⟩)]
theorem hs_shsk_n {s k : Nat} (h : hs_bt s k = false) : hs_shsk σ s k = hs_shsk σ s (k + 1) := by
  refine hs_hx rfl rfl (fun h' f => ?_) rfl rfl
  show (if f = 6 ∧ h' < k ∧ hs_bt s h' = true then 1 else hs_hv σ h' f) = (if f = 6 ∧ h' < k + 1 ∧ hs_bt s h' = true then 1 else hs_hv σ h' f)
  by_cases g : f = 6 ∧ h' < k ∧ hs_bt s h' = true
  · rw [if_pos g, if_pos ⟨g.1, by omega, g.2.2⟩]
  · rw [if_neg g, if_neg (fun z => g ⟨z.1, by have : h' ≠ k := (fun q => absurd z.2.2 (by rw [q, h]; decide)); omega, z.2.2⟩)]
theorem hs_shbk_s {σ0 : hs_S} {k : Nat} : hs_shv (hs_shbk σ0 σ k) k 6 (hs_hv σ0 k 6) = hs_shbk σ0 σ (k + 1) := by
  refine hs_hx rfl rfl (fun h' f => ?_) rfl rfl
  show hs_u2 _ k 6 _ h' f = (if f = 6 ∧ h' < k + 1 then hs_hv σ0 h' 6 else hs_hv σ h' f)
  unfold hs_u2
  by_cases e : h' = k ∧ f = 6
  · obtain ⟨rfl, rfl⟩ := e; rw [if_pos ⟨rfl, rfl⟩, if_pos ⟨rfl, Nat.lt_succ_self _⟩]
  · rw [if_neg e]
    show (if _ then _ else _) = _
    by_cases g : f = 6 ∧ h' < k
    · rw [if_pos g, if_pos ⟨g.1, by omega⟩]
    · rw [if_neg g, if_neg (fun z => g ⟨z.1, by have : h' ≠ k := fun q => e ⟨q, z.1⟩; omega⟩)]
theorem hs_shsk_0 {s : Nat} : hs_shsk σ s 0 = σ := by
  refine hs_hx rfl rfl (fun h f => ?_) rfl rfl
  exact if_neg (fun z => absurd z.2.1 (Nat.not_lt_zero _))
theorem hs_shbk_0 {σ0 : hs_S} : hs_shbk σ0 σ 0 = σ := by
  refine hs_hx rfl rfl (fun h f => ?_) rfl rfl
  exact if_neg (fun z => absurd z.2 (Nat.not_lt_zero _))
theorem hs_ok.shsk (hO : hs_ok T σ) {s k : Nat} : hs_ok T (hs_shsk σ s k) := by
  obtain ⟨g1, g2, g3, g4, g5, g6, g7, g8⟩ := hO
  refine ⟨g1, g2, g3, g4, fun h hh => ?_, g6, g7, g8⟩
  obtain ⟨q1, q2, q3⟩ := g5 h hh
  have key : ∀ f, hs_hv (hs_shsk σ s k) h f = if f = 6 ∧ h < k ∧ hs_bt s h = true then 1 else hs_hv σ h f := fun f => rfl
  rw [key, key, key, if_neg (by omega), if_neg (by omega)]
  refine ⟨q1, q2, ?_⟩
  split
  · exact Or.inr rfl
  · exact q3
theorem hs_ok.shbk {σ0 : hs_S} (hO : hs_ok T σ) (h0 : hs_ok T σ0) {k : Nat} (hk : k ≤ hs_n σ0) : hs_ok T (hs_shbk σ0 σ k) := by
  obtain ⟨g1, g2, g3, g4, g5, g6, g7, g8⟩ := hO
  refine ⟨g1, g2, g3, g4, fun h hh => ?_, g6, g7, g8⟩
  obtain ⟨q1, q2, q3⟩ := g5 h hh
  have key : ∀ f, hs_hv (hs_shbk σ0 σ k) h f = if f = 6 ∧ h < k then hs_hv σ0 h 6 else hs_hv σ h f := fun f => rfl
  rw [key, key, key, if_neg (by omega), if_neg (by omega)]
  refine ⟨q1, q2, ?_⟩
  split
  · rename_i z; exact (h0.2.2.2.2.1 h (by omega)).2.2
  · exact q3
theorem m_D_openOnes_loop (hE : hq_E T tw σ I Rf X) : ∀ (r k : Nat), k + r = hs_n σ → hg_WP l E (d) Y_D_openOnes 0 0 4 [some (.ref (hg_ad E 0 0)), some (.int (nI (hs_opn σ k))), some (.int (nI k))] [] (I, Lg, Rf, X) (hg_i (fun v M' => v = nI (hs_opn σ (hs_n σ)) ∧ M' = (I, Lg, Rf, X))) := by
  obtain ⟨hX, hR, hC, hO, hW⟩ := id hE
  have hn6 := hO.1
  intro r
  induction r with
  | zero =>
    intro k hkr
    obtain rfl : k = hs_n σ := by omega
    refine hg_iload2 d_D_openOnes_4 ?_
    refine hg_aload0 d_D_openOnes_5 ?_
    refine hg_getR d_D_openOnes_6 f_D_69 rfl rfl (hX.lt (n := 1) ⟨by decide, by decide⟩ rfl (by omega)) (hR.D (j := 0) (q := (1, 0)) rfl) ?_
    refine hg_getI d_D_openOnes_9 f_D_185 rfl rfl (hX.lt (n := 3) ⟨by decide, by decide⟩ rfl (by omega)) ?_
    refine hg_eq1 (y := nI (hs_n σ)) (hC.1) ?_
    refine hg_icmp_ge (tgt := 42) d_D_openOnes_12 (by decide) (fun h_1 => ?_) (fun h_1 => absurd (Int32.le_refl _) h_1)
    refine hg_iload1 d_D_openOnes_42 ?_
    refine hg_ireturn d_D_openOnes_43 rfl rfl ?_
    exact ⟨rfl, rfl⟩
  | succ r ih =>
    intro k hkr
    have hl := hs_opn_lt σ k
    refine hg_iload2 d_D_openOnes_4 ?_
    refine hg_aload0 d_D_openOnes_5 ?_
    refine hg_getR d_D_openOnes_6 f_D_69 rfl rfl (hX.lt (n := 1) ⟨by decide, by decide⟩ rfl (by omega)) (hR.D (j := 0) (q := (1, 0)) rfl) ?_
    refine hg_getI d_D_openOnes_9 f_D_185 rfl rfl (hX.lt (n := 3) ⟨by decide, by decide⟩ rfl (by omega)) ?_
    refine hg_eq1 (y := nI (hs_n σ)) (hC.1) ?_
    refine hg_icmp_ge (tgt := 42) d_D_openOnes_12 (by decide) (fun h_2 => absurd h_2 (nI_ge (by omega) (by omega))) (fun h_2 => ?_)
    refine hg_aload0 d_D_openOnes_15 ?_
    refine hg_getR d_D_openOnes_16 f_D_69 rfl rfl (hX.lt (n := 1) ⟨by decide, by decide⟩ rfl (by omega)) (hR.D (j := 0) (q := (1, 0)) rfl) ?_
    refine hg_getR d_D_openOnes_19 f_D_195 rfl rfl (hX.lt (n := 3) ⟨by decide, by decide⟩ rfl (by omega)) (hR.s0 (by omega)) ?_
    refine hg_iload2 d_D_openOnes_22 ?_
    refine hg_aald_n (j := k) d_D_openOnes_23 rfl (by decide) (hX.lt (n := 3) ⟨by decide, by decide⟩ rfl (by omega)) (hX.jn (n := 6) (by decide) rfl (by omega)) (hR.ha (by omega) (by omega)) ?_
    refine hg_getI d_D_openOnes_24 f_D_113 rfl rfl (hX.lt (n := 18) ⟨by decide, by decide⟩ rfl (by omega)) ?_
    refine hg_eq1 (y := hs_hv σ k 6) (hC.2.2.2.2.2.2.1 k 6 (by omega) (by decide)) ?_
    refine hg_if_ne (tgt := 36) d_D_openOnes_27 (by decide) (fun hsh => ?_) (fun hsh => ?_)
    · refine hg_iinc2 (v := nI (k + 1)) d_D_openOnes_36 rfl (nI_add _ _) ?_
      refine hg_goto (tgt := 4) d_D_openOnes_39 (by decide) ?_
      have := ih (k + 1) (by omega)
      rwa [show hs_opn σ (k + 1) = hs_opn σ k from if_neg hsh] at this
    · replace hsh := Decidable.not_not.mp hsh
      refine hg_iload1 d_D_openOnes_30 ?_
      refine hg_iconst (v := 1) d_D_openOnes_31 (by decide) ?_
      refine hg_iload2 d_D_openOnes_32 ?_
      refine hg_ishl d_D_openOnes_33 ?_
      refine hg_ior d_D_openOnes_34 ?_
      refine hg_eq1 (y := nI (hs_opn σ k + 2 ^ k)) (fg_or k (by omega) _ hl) ?_
      refine hg_istore1 d_D_openOnes_35 rfl ?_
      refine hg_iinc2 (v := nI (k + 1)) d_D_openOnes_36 rfl (nI_add _ _) ?_
      refine hg_goto (tgt := 4) d_D_openOnes_39 (by decide) ?_
      have := ih (k + 1) (by omega)
      rwa [show hs_opn σ (k + 1) = hs_opn σ k + 2 ^ k from if_pos hsh] at this
theorem m_D_openOnes (hE : hq_E T tw σ I Rf X) : hg_MC l E (d + 1) Y_D_openOnes 0 0 [.ref (hg_ad E 0 0)] (I, Lg, Rf, X) (hg_i (fun v M' => v = nI (hs_opn σ (hs_n σ)) ∧ M' = (I, Lg, Rf, X))) := by
  refine hg_mc k_D_openOnes (Nat.le_of_ble_eq_true rfl) ?_
  show hg_WP l E _ Y_D_openOnes 0 0 0 [some (.ref (hg_ad E 0 0)), none, none] [] (I, Lg, Rf, X) _
  refine hg_iconst (v := 0) d_D_openOnes_0 (by decide) ?_
  refine hg_istore1 d_D_openOnes_1 rfl ?_
  refine hg_iconst (v := 0) d_D_openOnes_2 (by decide) ?_
  refine hg_istore2 d_D_openOnes_3 rfl ?_
  exact m_D_openOnes_loop hE _ 0 (Nat.zero_add _)

theorem hs_C.ne18 {q : Nat} {τ : hs_S} {I' : Nat → Nat → Nat → Int32} (h : hs_C q τ I1 Rf1) (e : ∀ k, k ≠ 18 → I' k = I1 k) : hs_C q τ I' Rf1 := by
  unfold hs_C at h ⊢
  rw [e 1 (by decide), e 3 (by decide), e 4 (by decide), e 5 (by decide)]
  exact h
theorem m_D_dbs4 {m s : Nat} (hE : hq_E T tw σ I Rf X) (hw : hs_wk σ ≤ 9999) (hm0 : 0 < m) (hm : m ≤ 6) (hs64 : s < 64) (hr : hg_rx Rf1 Rf) : ∀ (r k : Nat) (I1 : Nat → Nat → Nat → Int32), k + r = hs_n σ → hs_C 1 (sp_fg tw σ m s) I1 Rf1 → hg_sc I1 I → (∀ h, h < k → I1 18 0 (6 * s + h) = hs_hv (sp_fg tw σ m s) h 4) → (∀ j, ¬ (6 * s ≤ j ∧ j < 6 * s + 6) → I1 18 0 j = I 18 0 j) → hg_WP l E (d + 6) Y_D_dineBySet 0 0 125 [some (.ref (hg_ad E 0 0)), some (.int (nI s)), some (.int (nI m)), some (.int (nI k))] [] (I1, Lg, Rf1, X) (hg_v (fun M' => ∃ (I' : Nat → Nat → Nat → Int32) (Rf' : Nat → Nat → Nat → Option (Nat × Nat)), M' = (I', Lg, Rf', X) ∧ hg_sc I' I ∧ hg_rx Rf' Rf ∧ (∀ h, h < hs_n σ → I' 18 0 (6 * s + h) = hs_hv (sp_fg tw σ m s) h 4) ∧ ∀ j, ¬ (6 * s ≤ j ∧ j < 6 * s + 6) → I' 18 0 j = I 18 0 j)) := by
  obtain ⟨hX0, hR0, hC0, hO, hW0⟩ := id hE
  have hn6 := hO.1
  have hOs : hs_ok T (hs_shsk σ s (hs_n σ)) := hO.shsk
  have hnT : hs_n (hs_thu tw (hs_shs σ s)) = hs_n σ := (hs_thu_all tw (hs_shs σ s)).1
  have hwT : hs_wk (hs_thu tw (hs_shs σ s)) = hs_wk σ + 1 := (hs_thu_all tw (hs_shs σ s)).2.2.1
  have hOT : hs_ok T (hs_thu tw (hs_shs σ s)) := hOs.thu
  have hOB : hs_ok T (hs_shb σ (hs_thu tw (hs_shs σ s))) := by have := hOT.shbk hO (k := hs_n (hs_thu tw (hs_shs σ s))) (by omega); exact this
  have hnF : hs_n (sp_fg tw σ m s) = hs_n σ := ((hs_th_all (tw := tw) hOB (m - 1)).2.2.1).trans hnT
  intro r
  induction r with
  | zero =>
    intro k I1 hkr hC1 hs h1 h2
    obtain ⟨hX, hR, hCn, -, hW⟩ := hE.sc hs hr
    obtain rfl : k = hs_n σ := by omega
    refine hg_iload3 d_D_dineBySet_125 ?_
    refine hg_aload0 d_D_dineBySet_126 ?_
    refine hg_getR d_D_dineBySet_127 f_D_73 rfl rfl (hX.lt (n := 1) ⟨by decide, by decide⟩ rfl (by omega)) (hR.D (j := 1) (q := (1, 1)) rfl) ?_
    refine hg_getI d_D_dineBySet_130 f_D_185 rfl rfl (hX.lt (n := 3) ⟨by decide, by decide⟩ rfl (by omega)) ?_
    refine hg_eq1 (y := nI (hs_n σ)) (by rw [hC1.1, hnF]) ?_
    refine hg_icmp_ge (tgt := 165) d_D_dineBySet_133 (by decide) (fun h_1 => ?_) (fun h_1 => absurd (Int32.le_refl _) h_1)
    refine hg_return d_D_dineBySet_165 rfl ?_
    exact ⟨I1, Rf1, rfl, hs, hr, h1, h2⟩
  | succ r ih =>
    intro k I1 hkr hC1 hs h1 h2
    obtain ⟨hX, hR, hCn, -, hW⟩ := hE.sc hs hr
    refine hg_iload3 d_D_dineBySet_125 ?_
    refine hg_aload0 d_D_dineBySet_126 ?_
    refine hg_getR d_D_dineBySet_127 f_D_73 rfl rfl (hX.lt (n := 1) ⟨by decide, by decide⟩ rfl (by omega)) (hR.D (j := 1) (q := (1, 1)) rfl) ?_
    refine hg_getI d_D_dineBySet_130 f_D_185 rfl rfl (hX.lt (n := 3) ⟨by decide, by decide⟩ rfl (by omega)) ?_
    refine hg_eq1 (y := nI (hs_n σ)) (by rw [hC1.1, hnF]) ?_
    refine hg_icmp_ge (tgt := 165) d_D_dineBySet_133 (by decide) (fun h_2 => absurd h_2 (nI_ge (by omega) (by omega))) (fun h_2 => ?_)
    refine hg_aload0 d_D_dineBySet_136 ?_
    refine hg_getR d_D_dineBySet_137 f_D_55 rfl rfl (hX.lt (n := 1) ⟨by decide, by decide⟩ rfl (by omega)) (hR.D (j := 14) (q := (18, 0)) rfl) ?_
    refine hg_bipush (v := 6) d_D_dineBySet_140 (by decide) ?_
    refine hg_iload1 d_D_dineBySet_142 ?_
    refine hg_imul d_D_dineBySet_143 ?_
    refine hg_eq1 (y := nI (6 * s)) (pk_mul _ _) ?_
    refine hg_iload3 d_D_dineBySet_144 ?_
    refine hg_iadd d_D_dineBySet_145 ?_
    refine hg_eq1 (y := nI ((6 * s) + k)) (nI_add _ _) ?_
    refine hg_aload0 d_D_dineBySet_146 ?_
    refine hg_getR d_D_dineBySet_147 f_D_73 rfl rfl (hX.lt (n := 1) ⟨by decide, by decide⟩ rfl (by omega)) (hR.D (j := 1) (q := (1, 1)) rfl) ?_
    refine hg_getR d_D_dineBySet_150 f_D_195 rfl rfl (hX.lt (n := 3) ⟨by decide, by decide⟩ rfl (by omega)) (hR.s0 (by omega)) ?_
    refine hg_iload3 d_D_dineBySet_153 ?_
    refine hg_aald_n (j := k) d_D_dineBySet_154 rfl (by decide) (hX.lt (n := 3) ⟨by decide, by decide⟩ rfl (by omega)) (hX.jn (n := 6) (by decide) rfl (by omega)) (hR.ha (by omega) (by omega)) ?_
    refine hg_getI d_D_dineBySet_155 f_D_107 rfl rfl (hX.lt (n := 18) ⟨by decide, by decide⟩ rfl (by omega)) ?_
    refine hg_eq1 (y := hs_hv (sp_fg tw σ m s) k 4) (hC1.2.2.2.2.2.2.1 k 4 (by omega) (by decide)) ?_
    refine hg_iast_n (j := ((6 * s) + k)) d_D_dineBySet_158 rfl rfl (hX.lt (n := 1) ⟨by decide, by decide⟩ rfl (by omega)) (hX.jn (n := 384) (by decide) rfl (by omega)) ?_
    refine hg_iinc3 (v := nI (k + 1)) d_D_dineBySet_159 rfl (nI_add _ _) ?_
    refine hg_goto (tgt := 125) d_D_dineBySet_162 (by decide) ?_
    have hf : ∀ q, q ≠ 18 → (hg_u3 I1 18 0 ((6 * s) + k) (hs_hv (sp_fg tw σ m s) k 4)) q = I1 q := fun q hq => by funext a b; exact hg_u3k (fun z => hq z.1)
    refine ih (k + 1) _ (by omega) ?_ (fun q i hn => ?_) (fun h hh => ?_) (fun j hj => ?_)
    · exact hC1.ne18 hf
    · rw [← hs q i hn]; exact congrFun (hf q (fun z => hn (Or.inr z))) i
    · show (if _ then _ else I1 18 0 _) = _
      by_cases e : h = k
      · subst e; rw [if_pos ⟨rfl, rfl, rfl⟩]
      · rw [if_neg (by omega)]; exact h1 h (by omega)
    · show (if _ then _ else I1 18 0 _) = _
      rw [if_neg (by omega)]; exact h2 j hj
theorem m_D_dbs3 {m s : Nat} (hE : hq_E T tw σ I Rf X) (hw : hs_wk σ ≤ 9999) (hm0 : 0 < m) (hm : m ≤ 6) (hs64 : s < 64) (hr : hg_rx Rf1 Rf) : ∀ (r i : Nat) (I1 : Nat → Nat → Nat → Int32), i + r = m → 0 < i → hs_C 1 (hs_th tw (hs_shb σ (hs_thu tw (hs_shs σ s))) (i - 1)) I1 Rf1 → hg_sc I1 I → (∀ j, I1 18 0 j = I 18 0 j) → hg_WP l E (d + 6) Y_D_dineBySet 0 0 104 [some (.ref (hg_ad E 0 0)), some (.int (nI s)), some (.int (nI m)), some (.int (nI i))] [] (I1, Lg, Rf1, X) (hg_v (fun M' => ∃ (I' : Nat → Nat → Nat → Int32) (Rf' : Nat → Nat → Nat → Option (Nat × Nat)), M' = (I', Lg, Rf', X) ∧ hg_sc I' I ∧ hg_rx Rf' Rf ∧ (∀ h, h < hs_n σ → I' 18 0 (6 * s + h) = hs_hv (sp_fg tw σ m s) h 4) ∧ ∀ j, ¬ (6 * s ≤ j ∧ j < 6 * s + 6) → I' 18 0 j = I 18 0 j)) := by
  obtain ⟨hX0, hR0, hC0, hO, hW0⟩ := id hE
  have hn6 := hO.1
  have hOs : hs_ok T (hs_shsk σ s (hs_n σ)) := hO.shsk
  have hnT : hs_n (hs_thu tw (hs_shs σ s)) = hs_n σ := (hs_thu_all tw (hs_shs σ s)).1
  have hwT : hs_wk (hs_thu tw (hs_shs σ s)) = hs_wk σ + 1 := (hs_thu_all tw (hs_shs σ s)).2.2.1
  have hOT : hs_ok T (hs_thu tw (hs_shs σ s)) := hOs.thu
  have hOB : hs_ok T (hs_shb σ (hs_thu tw (hs_shs σ s))) := by have := hOT.shbk hO (k := hs_n (hs_thu tw (hs_shs σ s))) (by omega); exact this
  intro r
  induction r with
  | zero =>
    intro i I1 hir hi hC1 hs h2
    obtain ⟨hX, hR, hCn, -, hW⟩ := hE.sc hs hr
    obtain rfl : i = m := by omega
    refine hg_iload3 d_D_dineBySet_104 ?_
    refine hg_iload2 d_D_dineBySet_105 ?_
    refine hg_icmp_ge (tgt := 123) d_D_dineBySet_106 (by decide) (fun h_1 => ?_) (fun h_1 => absurd (Int32.le_refl _) h_1)
    refine hg_iconst (v := 0) d_D_dineBySet_123 (by decide) ?_
    refine hg_istore3 d_D_dineBySet_124 rfl ?_
    exact m_D_dbs4 hE hw hm0 hm hs64 hr _ 0 I1 (Nat.zero_add _) hC1 hs (fun h hh => absurd hh (Nat.not_lt_zero _)) (fun j _ => h2 j)
  | succ r ih =>
    intro i I1 hir hi hC1 hs h2
    obtain ⟨hX, hR, hCn, -, hW⟩ := hE.sc hs hr
    obtain ⟨hOi, hwi, -, -⟩ := hs_th_all (tw := tw) hOB (i - 1)
    have hwB : hs_wk (hs_shb σ (hs_thu tw (hs_shs σ s))) = hs_wk σ + 1 := hwT
    refine hg_iload3 d_D_dineBySet_104 ?_
    refine hg_iload2 d_D_dineBySet_105 ?_
    refine hg_icmp_ge (tgt := 123) d_D_dineBySet_106 (by decide) (fun h_2 => absurd h_2 (nI_ge (by omega) (by omega))) (fun h_2 => ?_)
    refine hg_aload0 d_D_dineBySet_109 ?_
    refine hg_getR d_D_dineBySet_110 f_D_73 rfl rfl (hX.lt (n := 1) ⟨by decide, by decide⟩ rfl (by omega)) (hR.D (j := 1) (q := (1, 1)) rfl) ?_
    refine hg_cVi d_D_dineBySet_113 l_D_199 rfl rfl (hX.lt (n := 3) ⟨by decide, by decide⟩ rfl (by omega)) rfl (Nat.le_of_ble_eq_true rfl) (m_S_thursday (s := 1) hX hR (by decide) hC1 hOi hW (by omega)) rfl ?_
    rintro _ _ ⟨I2, rfl, rfl, hC2, hf2⟩
    refine hg_pop d_D_dineBySet_116 rfl ?_
    refine hg_iinc3 (v := nI (i + 1)) d_D_dineBySet_117 rfl (nI_add _ _) ?_
    refine hg_goto (tgt := 104) d_D_dineBySet_120 (by decide) ?_
    have hi1 : hs_thu tw (hs_th tw (hs_shb σ (hs_thu tw (hs_shs σ s))) (i - 1)) = hs_th tw (hs_shb σ (hs_thu tw (hs_shs σ s))) (i + 1 - 1) := by rw [show i + 1 - 1 = (i - 1) + 1 by omega]; rfl
    exact ih (i + 1) I2 (by omega) (by omega) (hi1 ▸ hC2) (hf2.sc.tr hs) (fun j => by rw [hf2 18 0 (by unfold hg_tch; omega)]; exact h2 j)
theorem m_D_dbs2 {m s : Nat} (hE : hq_E T tw σ I Rf X) (hw : hs_wk σ ≤ 9999) (hm0 : 0 < m) (hm : m ≤ 6) (hs64 : s < 64) (hr : hg_rx Rf1 Rf) : ∀ (r k : Nat) (I1 : Nat → Nat → Nat → Int32), k + r = hs_n σ → hs_C 1 (hs_shbk σ (hs_thu tw (hs_shs σ s)) k) I1 Rf1 → hg_sc I1 I → (∀ j, I1 18 0 j = I 18 0 j) → hg_WP l E (d + 6) Y_D_dineBySet 0 0 61 [some (.ref (hg_ad E 0 0)), some (.int (nI s)), some (.int (nI m)), some (.int (nI k))] [] (I1, Lg, Rf1, X) (hg_v (fun M' => ∃ (I' : Nat → Nat → Nat → Int32) (Rf' : Nat → Nat → Nat → Option (Nat × Nat)), M' = (I', Lg, Rf', X) ∧ hg_sc I' I ∧ hg_rx Rf' Rf ∧ (∀ h, h < hs_n σ → I' 18 0 (6 * s + h) = hs_hv (sp_fg tw σ m s) h 4) ∧ ∀ j, ¬ (6 * s ≤ j ∧ j < 6 * s + 6) → I' 18 0 j = I 18 0 j)) := by
  obtain ⟨hX0, hR0, hC0, hO, hW0⟩ := id hE
  have hn6 := hO.1
  have hOs : hs_ok T (hs_shsk σ s (hs_n σ)) := hO.shsk
  have hnT : hs_n (hs_thu tw (hs_shs σ s)) = hs_n σ := (hs_thu_all tw (hs_shs σ s)).1
  have hwT : hs_wk (hs_thu tw (hs_shs σ s)) = hs_wk σ + 1 := (hs_thu_all tw (hs_shs σ s)).2.2.1
  have hOT : hs_ok T (hs_thu tw (hs_shs σ s)) := hOs.thu
  have hOB : hs_ok T (hs_shb σ (hs_thu tw (hs_shs σ s))) := by have := hOT.shbk hO (k := hs_n (hs_thu tw (hs_shs σ s))) (by omega); exact this
  intro r
  induction r with
  | zero =>
    intro k I1 hkr hC1 hs h2
    obtain ⟨hX, hR, hCn, -, hW⟩ := hE.sc hs hr
    obtain rfl : k = hs_n σ := by omega
    refine hg_iload3 d_D_dineBySet_61 ?_
    refine hg_aload0 d_D_dineBySet_62 ?_
    refine hg_getR d_D_dineBySet_63 f_D_73 rfl rfl (hX.lt (n := 1) ⟨by decide, by decide⟩ rfl (by omega)) (hR.D (j := 1) (q := (1, 1)) rfl) ?_
    refine hg_getI d_D_dineBySet_66 f_D_185 rfl rfl (hX.lt (n := 3) ⟨by decide, by decide⟩ rfl (by omega)) ?_
    refine hg_eq1 (y := nI (hs_n σ)) (hC1.1.trans (congrArg nI hnT)) ?_
    refine hg_icmp_ge (tgt := 102) d_D_dineBySet_69 (by decide) (fun h_1 => ?_) (fun h_1 => absurd (Int32.le_refl _) h_1)
    refine hg_iconst (v := 1) d_D_dineBySet_102 (by decide) ?_
    refine hg_istore3 d_D_dineBySet_103 rfl ?_
    exact m_D_dbs3 hE hw hm0 hm hs64 hr (m - 1) 1 I1 (by omega) (by decide) (by rw [show hs_shbk σ (hs_thu tw (hs_shs σ s)) (hs_n σ) = hs_shb σ (hs_thu tw (hs_shs σ s)) from by rw [← hnT]; rfl] at hC1; exact hC1) hs h2
  | succ r ih =>
    intro k I1 hkr hC1 hs h2
    obtain ⟨hX, hR, hCn, -, hW⟩ := hE.sc hs hr
    have hk6 := (hO.2.2.2.2.1 k (by omega)).2.2
    refine hg_iload3 d_D_dineBySet_61 ?_
    refine hg_aload0 d_D_dineBySet_62 ?_
    refine hg_getR d_D_dineBySet_63 f_D_73 rfl rfl (hX.lt (n := 1) ⟨by decide, by decide⟩ rfl (by omega)) (hR.D (j := 1) (q := (1, 1)) rfl) ?_
    refine hg_getI d_D_dineBySet_66 f_D_185 rfl rfl (hX.lt (n := 3) ⟨by decide, by decide⟩ rfl (by omega)) ?_
    refine hg_eq1 (y := nI (hs_n σ)) (hC1.1.trans (congrArg nI hnT)) ?_
    refine hg_icmp_ge (tgt := 102) d_D_dineBySet_69 (by decide) (fun h_2 => absurd h_2 (nI_ge (by omega) (by omega))) (fun h_2 => ?_)
    refine hg_aload0 d_D_dineBySet_72 ?_
    refine hg_getR d_D_dineBySet_73 f_D_73 rfl rfl (hX.lt (n := 1) ⟨by decide, by decide⟩ rfl (by omega)) (hR.D (j := 1) (q := (1, 1)) rfl) ?_
    refine hg_getR d_D_dineBySet_76 f_D_195 rfl rfl (hX.lt (n := 3) ⟨by decide, by decide⟩ rfl (by omega)) (hR.s0 (by omega)) ?_
    refine hg_iload3 d_D_dineBySet_79 ?_
    refine hg_aald_n (j := k) d_D_dineBySet_80 rfl (by decide) (hX.lt (n := 3) ⟨by decide, by decide⟩ rfl (by omega)) (hX.jn (n := 6) (by decide) rfl (by omega)) (hR.ha (by omega) (by omega)) ?_
    refine hg_aload0 d_D_dineBySet_81 ?_
    refine hg_getR d_D_dineBySet_82 f_D_69 rfl rfl (hX.lt (n := 1) ⟨by decide, by decide⟩ rfl (by omega)) (hR.D (j := 0) (q := (1, 0)) rfl) ?_
    refine hg_getR d_D_dineBySet_85 f_D_195 rfl rfl (hX.lt (n := 3) ⟨by decide, by decide⟩ rfl (by omega)) (hR.s0 (by omega)) ?_
    refine hg_iload3 d_D_dineBySet_88 ?_
    refine hg_aald_n (j := k) d_D_dineBySet_89 rfl (by decide) (hX.lt (n := 3) ⟨by decide, by decide⟩ rfl (by omega)) (hX.jn (n := 6) (by decide) rfl (by omega)) (hR.ha (by omega) (by omega)) ?_
    refine hg_getI d_D_dineBySet_90 f_D_113 rfl rfl (hX.lt (n := 18) ⟨by decide, by decide⟩ rfl (by omega)) ?_
    refine hg_eq1 (y := hs_hv σ k 6) (hCn.2.2.2.2.2.2.1 k 6 (by omega) (by decide)) ?_
    refine hg_putI d_D_dineBySet_93 f_D_113 rfl rfl (Or.inl rfl) (by rcases hk6 with z | z <;> rw [z] <;> rfl) (by rcases hk6 with z | z <;> rw [z] <;> rfl) (hX.lt (n := 18) ⟨by decide, by decide⟩ rfl (by omega)) ?_
    refine hg_iinc3 (v := nI (k + 1)) d_D_dineBySet_96 rfl (nI_add _ _) ?_
    refine hg_goto (tgt := 61) d_D_dineBySet_99 (by decide) ?_
    refine ih (k + 1) _ (by omega) ?_ ((hg_fr.sc (hg_fr.rf.u3 (s := 1) (hg_tch3 (by omega)))).tr hs) (fun j => (hg_u3k (by omega)).trans (h2 j))
    rw [← hs_shbk_s]; exact hC1.shv
theorem m_D_dbs1 {m s : Nat} (hE : hq_E T tw σ I Rf X) (hw : hs_wk σ ≤ 9999) (hm0 : 0 < m) (hm : m ≤ 6) (hs64 : s < 64) (hr : hg_rx Rf1 Rf) : ∀ (r k : Nat) (I1 : Nat → Nat → Nat → Int32), k + r = hs_n σ → hs_C 1 (hs_shsk σ s k) I1 Rf1 → hg_sc I1 I → (∀ j, I1 18 0 j = I 18 0 j) → hg_WP l E (d + 6) Y_D_dineBySet 0 0 13 [some (.ref (hg_ad E 0 0)), some (.int (nI s)), some (.int (nI m)), some (.int (nI k))] [] (I1, Lg, Rf1, X) (hg_v (fun M' => ∃ (I' : Nat → Nat → Nat → Int32) (Rf' : Nat → Nat → Nat → Option (Nat × Nat)), M' = (I', Lg, Rf', X) ∧ hg_sc I' I ∧ hg_rx Rf' Rf ∧ (∀ h, h < hs_n σ → I' 18 0 (6 * s + h) = hs_hv (sp_fg tw σ m s) h 4) ∧ ∀ j, ¬ (6 * s ≤ j ∧ j < 6 * s + 6) → I' 18 0 j = I 18 0 j)) := by
  obtain ⟨hX0, hR0, hC0, hO, hW0⟩ := id hE
  have hn6 := hO.1
  have hOs : hs_ok T (hs_shsk σ s (hs_n σ)) := hO.shsk
  have hnT : hs_n (hs_thu tw (hs_shs σ s)) = hs_n σ := (hs_thu_all tw (hs_shs σ s)).1
  have hwT : hs_wk (hs_thu tw (hs_shs σ s)) = hs_wk σ + 1 := (hs_thu_all tw (hs_shs σ s)).2.2.1
  have hOT : hs_ok T (hs_thu tw (hs_shs σ s)) := hOs.thu
  have hOB : hs_ok T (hs_shb σ (hs_thu tw (hs_shs σ s))) := by have := hOT.shbk hO (k := hs_n (hs_thu tw (hs_shs σ s))) (by omega); exact this
  intro r
  induction r with
  | zero =>
    intro k I1 hkr hC1 hs h2
    obtain ⟨hX, hR, hCn, -, hW⟩ := hE.sc hs hr
    obtain rfl : k = hs_n σ := by omega
    refine hg_iload3 d_D_dineBySet_13 ?_
    refine hg_aload0 d_D_dineBySet_14 ?_
    refine hg_getR d_D_dineBySet_15 f_D_73 rfl rfl (hX.lt (n := 1) ⟨by decide, by decide⟩ rfl (by omega)) (hR.D (j := 1) (q := (1, 1)) rfl) ?_
    refine hg_getI d_D_dineBySet_18 f_D_185 rfl rfl (hX.lt (n := 3) ⟨by decide, by decide⟩ rfl (by omega)) ?_
    refine hg_eq1 (y := nI (hs_n σ)) (hC1.1) ?_
    refine hg_icmp_ge (tgt := 51) d_D_dineBySet_21 (by decide) (fun h_1 => ?_) (fun h_1 => absurd (Int32.le_refl _) h_1)
    refine hg_aload0 d_D_dineBySet_51 ?_
    refine hg_getR d_D_dineBySet_52 f_D_73 rfl rfl (hX.lt (n := 1) ⟨by decide, by decide⟩ rfl (by omega)) (hR.D (j := 1) (q := (1, 1)) rfl) ?_
    refine hg_cVi d_D_dineBySet_55 l_D_199 rfl rfl (hX.lt (n := 3) ⟨by decide, by decide⟩ rfl (by omega)) rfl (Nat.le_of_ble_eq_true rfl) (m_S_thursday (s := 1) hX hR (by decide) hC1 hOs hW (by show hs_wk σ < 2 ^ 31; omega)) rfl ?_
    rintro _ _ ⟨I2, rfl, rfl, hC2, hf2⟩
    refine hg_pop d_D_dineBySet_58 rfl ?_
    refine hg_iconst (v := 0) d_D_dineBySet_59 (by decide) ?_
    refine hg_istore3 d_D_dineBySet_60 rfl ?_
    exact m_D_dbs2 hE hw hm0 hm hs64 hr _ 0 I2 (Nat.zero_add _) (by rw [hs_shbk_0]; exact hC2) (hf2.sc.tr hs) (fun j => by rw [hf2 18 0 (by unfold hg_tch; omega)]; exact h2 j)
  | succ r ih =>
    intro k I1 hkr hC1 hs h2
    obtain ⟨hX, hR, hCn, -, hW⟩ := hE.sc hs hr
    refine hg_iload3 d_D_dineBySet_13 ?_
    refine hg_aload0 d_D_dineBySet_14 ?_
    refine hg_getR d_D_dineBySet_15 f_D_73 rfl rfl (hX.lt (n := 1) ⟨by decide, by decide⟩ rfl (by omega)) (hR.D (j := 1) (q := (1, 1)) rfl) ?_
    refine hg_getI d_D_dineBySet_18 f_D_185 rfl rfl (hX.lt (n := 3) ⟨by decide, by decide⟩ rfl (by omega)) ?_
    refine hg_eq1 (y := nI (hs_n σ)) (hC1.1) ?_
    refine hg_icmp_ge (tgt := 51) d_D_dineBySet_21 (by decide) (fun h_2 => absurd h_2 (nI_ge (by omega) (by omega))) (fun h_2 => ?_)
    refine hg_iload1 d_D_dineBySet_24 ?_
    refine hg_iload3 d_D_dineBySet_25 ?_
    refine hg_ishr d_D_dineBySet_26 ?_
    refine hg_iconst (v := 1) d_D_dineBySet_27 (by decide) ?_
    refine hg_iand d_D_dineBySet_28 ?_
    refine hg_eq1 (y := if hs_bt s k = true then 1 else 0) (fg_bt s hs64 k (by omega)) ?_
    refine hg_if_eq (tgt := 45) d_D_dineBySet_29 (by decide) (fun hb => ?_) (fun hb => ?_)
    · refine hg_iinc3 (v := nI (k + 1)) d_D_dineBySet_45 rfl (nI_add _ _) ?_
      refine hg_goto (tgt := 13) d_D_dineBySet_48 (by decide) ?_
      have hbt : hs_bt s k = false := by cases e : hs_bt s k with
        | false => rfl
        | true => rw [e] at hb; exact absurd hb (by decide)
      exact ih (k + 1) I1 (by omega) (by rw [← hs_shsk_n hbt]; exact hC1) hs h2
    · refine hg_aload0 d_D_dineBySet_32 ?_
      refine hg_getR d_D_dineBySet_33 f_D_73 rfl rfl (hX.lt (n := 1) ⟨by decide, by decide⟩ rfl (by omega)) (hR.D (j := 1) (q := (1, 1)) rfl) ?_
      refine hg_getR d_D_dineBySet_36 f_D_195 rfl rfl (hX.lt (n := 3) ⟨by decide, by decide⟩ rfl (by omega)) (hR.s0 (by omega)) ?_
      refine hg_iload3 d_D_dineBySet_39 ?_
      refine hg_aald_n (j := k) d_D_dineBySet_40 rfl (by decide) (hX.lt (n := 3) ⟨by decide, by decide⟩ rfl (by omega)) (hX.jn (n := 6) (by decide) rfl (by omega)) (hR.ha (by omega) (by omega)) ?_
      refine hg_iconst (v := 1) d_D_dineBySet_41 (by decide) ?_
      refine hg_putI d_D_dineBySet_42 f_D_113 rfl rfl (Or.inl rfl) rfl rfl (hX.lt (n := 18) ⟨by decide, by decide⟩ rfl (by omega)) ?_
      refine hg_iinc3 (v := nI (k + 1)) d_D_dineBySet_45 rfl (nI_add _ _) ?_
      refine hg_goto (tgt := 13) d_D_dineBySet_48 (by decide) ?_
      have hbt : hs_bt s k = true := Classical.byContradiction (fun z => hb (if_neg z))
      refine ih (k + 1) _ (by omega) ?_ ((hg_fr.sc (hg_fr.rf.u3 (s := 1) (hg_tch3 (by omega)))).tr hs) (fun j => (hg_u3k (by omega)).trans (h2 j))
      rw [← hs_shsk_s hbt]; exact hC1.shv
theorem m_D_dineBySet {m s : Nat} (hE : hq_E T tw σ I Rf X) (hw : hs_wk σ ≤ 9999) (hm0 : 0 < m) (hm : m ≤ 6) (hs64 : s < 64) : hg_MC l E (d + 7) Y_D_dineBySet 0 0 [.ref (hg_ad E 0 0), .int (nI s), .int (nI m)] (I, Lg, Rf, X) (hg_v (fun M' => ∃ (I' : Nat → Nat → Nat → Int32) (Rf' : Nat → Nat → Nat → Option (Nat × Nat)), M' = (I', Lg, Rf', X) ∧ hg_sc I' I ∧ hg_rx Rf' Rf ∧ (∀ h, h < hs_n σ → I' 18 0 (6 * s + h) = hs_hv (sp_fg tw σ m s) h 4) ∧ ∀ j, ¬ (6 * s ≤ j ∧ j < 6 * s + 6) → I' 18 0 j = I 18 0 j)) := by
  obtain ⟨hX, hR, hC, hO, hW⟩ := id hE
  have hn6 := hO.1
  refine hg_mc k_D_dineBySet (Nat.le_of_ble_eq_true rfl) ?_
  show hg_WP l E _ Y_D_dineBySet 0 0 0 [some (.ref (hg_ad E 0 0)), some (.int (nI s)), some (.int (nI m)), none] [] (I, Lg, Rf, X) _
  refine hg_aload0 d_D_dineBySet_0 ?_
  refine hg_getR d_D_dineBySet_1 f_D_73 rfl rfl (hX.lt (n := 1) ⟨by decide, by decide⟩ rfl (by omega)) (hR.D (j := 1) (q := (1, 1)) rfl) ?_
  refine hg_aload0 d_D_dineBySet_4 ?_
  refine hg_getR d_D_dineBySet_5 f_D_69 rfl rfl (hX.lt (n := 1) ⟨by decide, by decide⟩ rfl (by omega)) (hR.D (j := 0) (q := (1, 0)) rfl) ?_
  refine hg_cVv d_D_dineBySet_8 l_D_191 rfl rfl (hX.lt (n := 3) ⟨by decide, by decide⟩ rfl (by omega)) rfl (Nat.le_of_ble_eq_true rfl) (m_S_become (s := 1) (s2 := 0) hX hR (by decide) (by decide) (by decide) hC hO) rfl ?_
  rintro _ ⟨I1, rfl, hB1, hfB1⟩
  refine hg_iconst (v := 0) d_D_dineBySet_11 (by decide) ?_
  refine hg_istore3 d_D_dineBySet_12 rfl ?_
  exact m_D_dbs1 hE hw hm0 hm hs64 hg_rx.u3 _ 0 I1 (Nat.zero_add _) (by rw [hs_shsk_0]; exact hB1) hfB1.sc (fun j => congrFun (hfB1 18 0 (by unfold hg_tch; omega)) j)

theorem m_D_rests_loop {m s : Nat} (hE : hq_E T tw σ I Rf X) (hw : hs_wk σ ≤ 9999) (hs64 : s < 64) (hsub : hs_sub s (hs_opn σ (hs_n σ)) = true) (hd : ∀ s, s ≤ (hs_opn σ (hs_n σ)) → hs_sub s (hs_opn σ (hs_n σ)) = true → ∀ h, h < hs_n σ → I 18 0 (6 * s + h) = hs_hv (sp_fg tw σ m s) h 4) : ∀ (r p : Nat) (a4 : Option Value), p + r = hs_n σ → (∀ q, q < p → hs_hv σ q 6 = 0 → ¬ hs_hv (sp_fg tw σ m (hs_flip s q)) q 4 < hs_hv (sp_fg tw σ m s) q 4) → hg_WP l E (d) Y_D_rests 0 0 2 [some (.ref (hg_ad E 0 0)), some (.int (nI s)), some (.int (nI (hs_opn σ (hs_n σ)))), some (.int (nI p)), a4] [] (I, Lg, Rf, X) (hg_i (fun v M' => v = (if sp_rest tw σ m s = true then 1 else 0) ∧ M' = (I, Lg, Rf, X))) := by
  obtain ⟨hX, hR, hC, hO, hW⟩ := id hE
  have hn6 := hO.1
  have ho64 := hs_opn_64 (σ := σ) hn6
  intro r
  induction r with
  | zero =>
    intro p a4 hpr hall
    obtain rfl : p = hs_n σ := by omega
    refine hg_iload3 d_D_rests_2 ?_
    refine hg_aload0 d_D_rests_3 ?_
    refine hg_getR d_D_rests_4 f_D_69 rfl rfl (hX.lt (n := 1) ⟨by decide, by decide⟩ rfl (by omega)) (hR.D (j := 0) (q := (1, 0)) rfl) ?_
    refine hg_getI d_D_rests_7 f_D_185 rfl rfl (hX.lt (n := 3) ⟨by decide, by decide⟩ rfl (by omega)) ?_
    refine hg_eq1 (y := nI (hs_n σ)) (hC.1) ?_
    refine hg_icmp_ge (tgt := 65) d_D_rests_10 (by decide) (fun h_1 => ?_) (fun h_1 => absurd (Int32.le_refl _) h_1)
    refine hg_iconst (v := 1) d_D_rests_65 (by decide) ?_
    refine hg_ireturn d_D_rests_66 rfl (by decide) ?_
    refine ⟨?_, rfl⟩
    exact (if_pos (show sp_rest tw σ m s = true from hs_B_t.mpr hall)).symm
  | succ r ih =>
    intro p a4 hpr hall
    obtain ⟨hfl1, hfl2⟩ := fg_flip s hs64 p (by omega)
    refine hg_iload3 d_D_rests_2 ?_
    refine hg_aload0 d_D_rests_3 ?_
    refine hg_getR d_D_rests_4 f_D_69 rfl rfl (hX.lt (n := 1) ⟨by decide, by decide⟩ rfl (by omega)) (hR.D (j := 0) (q := (1, 0)) rfl) ?_
    refine hg_getI d_D_rests_7 f_D_185 rfl rfl (hX.lt (n := 3) ⟨by decide, by decide⟩ rfl (by omega)) ?_
    refine hg_eq1 (y := nI (hs_n σ)) (hC.1) ?_
    refine hg_icmp_ge (tgt := 65) d_D_rests_10 (by decide) (fun h_2 => absurd h_2 (nI_ge (by omega) (by omega))) (fun h_2 => ?_)
    refine hg_iload2 d_D_rests_13 ?_
    refine hg_iload3 d_D_rests_14 ?_
    refine hg_ishr d_D_rests_15 ?_
    refine hg_iconst (v := 1) d_D_rests_16 (by decide) ?_
    refine hg_iand d_D_rests_17 ?_
    refine hg_eq1 (y := if hs_bt (hs_opn σ (hs_n σ)) p = true then 1 else 0) (fg_bt _ ho64 p (by omega)) ?_
    refine hg_if_ne (tgt := 24) d_D_rests_18 (by decide) (fun hb => ?_) (fun hb => ?_)
    · have hbt : hs_bt (hs_opn σ (hs_n σ)) p = true := Classical.byContradiction (fun z => hb (if_neg z))
      have hop := (hs_opn_bt σ (hs_n σ) hn6 p (by omega)).mp hbt
      have hsf := fg_subf hs64 (show p < 6 by omega) hsub hbt
      have hd1 := hd _ (fg_le _ hfl2 _ ho64 hsf) hsf p (by omega)
      have hd2 := hd _ (fg_le _ hs64 _ ho64 hsub) hsub p (by omega)
      refine hg_iload1 d_D_rests_24 ?_
      refine hg_iconst (v := 1) d_D_rests_25 (by decide) ?_
      refine hg_iload3 d_D_rests_26 ?_
      refine hg_ishl d_D_rests_27 ?_
      refine hg_ixor d_D_rests_28 ?_
      refine hg_eq1 (y := nI (hs_flip s p)) (hfl1) ?_
      refine hg_istore4 d_D_rests_29 rfl ?_
      refine hg_aload0 d_D_rests_31 ?_
      refine hg_getR d_D_rests_32 f_D_55 rfl rfl (hX.lt (n := 1) ⟨by decide, by decide⟩ rfl (by omega)) (hR.D (j := 14) (q := (18, 0)) rfl) ?_
      refine hg_bipush (v := 6) d_D_rests_35 (by decide) ?_
      refine hg_iload4 d_D_rests_37 ?_
      refine hg_imul d_D_rests_39 ?_
      refine hg_eq1 (y := nI (6 * (hs_flip s p))) (pk_mul _ _) ?_
      refine hg_iload3 d_D_rests_40 ?_
      refine hg_iadd d_D_rests_41 ?_
      refine hg_eq1 (y := nI ((6 * (hs_flip s p)) + p)) (nI_add _ _) ?_
      refine hg_iald_n (j := ((6 * (hs_flip s p)) + p)) d_D_rests_42 rfl rfl (hX.lt (n := 1) ⟨by decide, by decide⟩ rfl (by omega)) (hX.jn (n := 384) (by decide) rfl (by omega)) ?_
      refine hg_aload0 d_D_rests_43 ?_
      refine hg_getR d_D_rests_44 f_D_55 rfl rfl (hX.lt (n := 1) ⟨by decide, by decide⟩ rfl (by omega)) (hR.D (j := 14) (q := (18, 0)) rfl) ?_
      refine hg_bipush (v := 6) d_D_rests_47 (by decide) ?_
      refine hg_iload1 d_D_rests_49 ?_
      refine hg_imul d_D_rests_50 ?_
      refine hg_eq1 (y := nI (6 * s)) (pk_mul _ _) ?_
      refine hg_iload3 d_D_rests_51 ?_
      refine hg_iadd d_D_rests_52 ?_
      refine hg_eq1 (y := nI ((6 * s) + p)) (nI_add _ _) ?_
      refine hg_iald_n (j := ((6 * s) + p)) d_D_rests_53 rfl rfl (hX.lt (n := 1) ⟨by decide, by decide⟩ rfl (by omega)) (hX.jn (n := 384) (by decide) rfl (by omega)) ?_
      refine hg_icmp_ge (tgt := 59) d_D_rests_54 (by decide) (fun hge => ?_) (fun hge => ?_)
      · rw [hd1, hd2] at hge
        refine hg_iinc3 (v := nI (p + 1)) d_D_rests_59 rfl (nI_add _ _) ?_
        refine hg_goto (tgt := 2) d_D_rests_62 (by decide) ?_
        refine ih (p + 1) _ (by omega) (fun q hq h0 => ?_)
        by_cases e : q = p
        · subst e; exact fun z => Int32.lt_irrefl (Int32.lt_of_le_of_lt hge z)
        · exact hall q (by omega) h0
      · rw [hd1, hd2] at hge
        refine hg_iconst (v := 0) d_D_rests_57 (by decide) ?_
        refine hg_ireturn d_D_rests_58 rfl (by decide) ?_
        refine ⟨?_, rfl⟩
        exact (if_neg (fun z => (hs_B_t.mp (show hs_B (∀ p, p < hs_n σ → hs_hv σ p 6 = 0 → ¬ hs_hv (sp_fg tw σ m (hs_flip s p)) p 4 < hs_hv (sp_fg tw σ m s) p 4) = true from z)) p (by omega) hop (Int32.not_le.mp hge))).symm
    · replace hb := Decidable.not_not.mp hb
      refine hg_goto (tgt := 59) d_D_rests_21 (by decide) ?_
      refine hg_iinc3 (v := nI (p + 1)) d_D_rests_59 rfl (nI_add _ _) ?_
      refine hg_goto (tgt := 2) d_D_rests_62 (by decide) ?_
      refine ih (p + 1) _ (by omega) (fun q hq h0 => ?_)
      by_cases e : q = p
      · subst e; rw [if_pos ((hs_opn_bt σ (hs_n σ) hn6 q (by omega)).mpr h0)] at hb; exact absurd hb (by decide)
      · exact hall q (by omega) h0
theorem m_D_rests {m s : Nat} (hE : hq_E T tw σ I Rf X) (hw : hs_wk σ ≤ 9999) (hs64 : s < 64) (hsub : hs_sub s (hs_opn σ (hs_n σ)) = true) (hd : ∀ s, s ≤ (hs_opn σ (hs_n σ)) → hs_sub s (hs_opn σ (hs_n σ)) = true → ∀ h, h < hs_n σ → I 18 0 (6 * s + h) = hs_hv (sp_fg tw σ m s) h 4) : hg_MC l E (d + 1) Y_D_rests 0 0 [.ref (hg_ad E 0 0), .int (nI s), .int (nI (hs_opn σ (hs_n σ)))] (I, Lg, Rf, X) (hg_i (fun v M' => v = (if sp_rest tw σ m s = true then 1 else 0) ∧ M' = (I, Lg, Rf, X))) := by
  refine hg_mc k_D_rests (Nat.le_of_ble_eq_true rfl) ?_
  show hg_WP l E _ Y_D_rests 0 0 0 [some (.ref (hg_ad E 0 0)), some (.int (nI s)), some (.int (nI (hs_opn σ (hs_n σ)))), none, none] [] (I, Lg, Rf, X) _
  refine hg_iconst (v := 0) d_D_rests_0 (by decide) ?_
  refine hg_istore3 d_D_rests_1 rfl ?_
  exact m_D_rests_loop hE hw hs64 hsub hd _ 0 none (Nat.zero_add _) (fun q hq => absurd hq (Nat.not_lt_zero _))

theorem m_D_feign2 {m b : Nat} (hE : hq_E T tw σ I Rf X) (hw : hs_wk σ ≤ 9999) (hm0 : 0 < m) (hm : m ≤ 6) (hb : b < 2) (hs : hg_sc I1 I) (hr : hg_rx Rf1 Rf) (hd : ∀ s, s ≤ (hs_opn σ (hs_n σ)) → hs_sub s (hs_opn σ (hs_n σ)) = true → ∀ h, h < hs_n σ → I1 18 0 (6 * s + h) = hs_hv (sp_fg tw σ m s) h 4) : ∀ (r s : Nat), s + r = ((hs_opn σ (hs_n σ)) + 1) → hg_WP l E (d + 7) Y_D_feign 0 0 70 [some (.ref (hg_ad E 0 0)), some (.int (nI m)), some (.int (nI b)), some (.int (nI (hs_opn σ (hs_n σ)))), some (.int (nI (hs_cnt (sp_fok tw σ m) s))), some (.int (hs_fst (sp_fok tw σ m) s)), some (.int (nI s))] [] (I1, Lg, Rf1, X) (hg_i (fun v M' => hq_A v (sp_feign tw σ (nI m) (nI b)) I Lg Rf X M')) := by
  obtain ⟨hX, hR, hC, hO, hW⟩ := hE.sc hs hr
  have hn6 := hO.1
  have ho64 := hs_opn_64 (σ := σ) hn6
  intro r
  induction r with
  | zero =>
    intro s hsr
    obtain rfl : s = ((hs_opn σ (hs_n σ)) + 1) := by omega
    refine hg_iload6 d_D_feign_70 ?_
    refine hg_iload3 d_D_feign_72 ?_
    refine hg_icmp_gt (tgt := 116) d_D_feign_73 (by decide) (fun h_1 => ?_) (fun h_1 => absurd ((nI_ltI (by omega) (by omega)).mpr (by omega)) h_1)
    refine hg_iload2 d_D_feign_116 ?_
    refine hg_if_ne (tgt := 125) d_D_feign_117 (by decide) (fun hb0 => ?_) (fun hb0 => ?_)
    · refine hg_iload5 d_D_feign_125 ?_
      refine hg_ireturn d_D_feign_127 rfl rfl ?_
      refine ⟨?_, I1, Rf1, rfl, hs, hr⟩
      have h2 : b = 0 ∨ b = 1 := by omega
      unfold sp_feign; rw [hs_ix_s hb (by decide), hs_ix_s (show m < 7 by omega) (by decide)]
      refine Eq.symm ((if_neg (by omega)).trans ?_)
      rcases h2 with rfl | rfl
      · first | exact absurd rfl hb0 | exact if_pos rfl
      · first | exact absurd hb0 (by decide) | exact if_neg (by decide)
    · replace hb0 := Decidable.not_not.mp hb0
      refine hg_iload4 d_D_feign_120 ?_
      refine hg_goto (tgt := 127) d_D_feign_122 (by decide) ?_
      refine hg_ireturn d_D_feign_127 rfl rfl ?_
      refine ⟨?_, I1, Rf1, rfl, hs, hr⟩
      have h2 : b = 0 ∨ b = 1 := by omega
      unfold sp_feign; rw [hs_ix_s hb (by decide), hs_ix_s (show m < 7 by omega) (by decide)]
      refine Eq.symm ((if_neg (by omega)).trans ?_)
      rcases h2 with rfl | rfl
      · first | exact absurd rfl hb0 | exact if_pos rfl
      · first | exact absurd hb0 (by decide) | exact if_neg (by decide)
  | succ r ih =>
    intro s hsr
    have hsb := fg_sub s (by omega) _ ho64
    have hcl := hs_cnt_le (sp_fok tw σ m) s
    refine hg_iload6 d_D_feign_70 ?_
    refine hg_iload3 d_D_feign_72 ?_
    refine hg_icmp_gt (tgt := 116) d_D_feign_73 (by decide) (fun h_2 => absurd h_2 (fun z => by rw [nI_ltI (by omega) (by omega)] at z; omega)) (fun h_2 => ?_)
    refine hg_iload6 d_D_feign_76 ?_
    refine hg_iload3 d_D_feign_78 ?_
    refine hg_iconst (v := (-1)) d_D_feign_79 (by decide) ?_
    refine hg_ixor d_D_feign_80 ?_
    refine hg_iand d_D_feign_81 ?_
    refine hg_if_ne (tgt := 110) d_D_feign_82 (by decide) (fun hsu => ?_) (fun hsu => ?_)
    · refine hg_iinc6 (v := nI (s + 1)) d_D_feign_110 rfl (nI_add _ _) ?_
      refine hg_goto (tgt := 70) d_D_feign_113 (by decide) ?_
      have := ih (s + 1) (by omega)
      have hok : ¬ sp_fok tw σ m s = true := by unfold sp_fok; rw [Bool.and_eq_true]; exact fun z => hsu (hsb.mpr z.1)
      rwa [show hs_cnt (sp_fok tw σ m) (s + 1) = hs_cnt (sp_fok tw σ m) s from if_neg hok, show hs_fst (sp_fok tw σ m) (s + 1) = hs_fst (sp_fok tw σ m) s from if_neg (fun z => hok z.1)] at this
    · replace hsu := Decidable.not_not.mp hsu
      refine hg_aload0 d_D_feign_85 ?_
      refine hg_iload6 d_D_feign_86 ?_
      refine hg_iload3 d_D_feign_88 ?_
      have hsub := hsb.mp hsu
      refine hg_cVi d_D_feign_89 l_D_208 rfl rfl (hX.lt (n := 1) ⟨by decide, by decide⟩ rfl (by omega)) rfl (Nat.le_of_ble_eq_true rfl) (m_D_rests (m := m) (hE.sc hs hr) hw (by omega) hsub hd) rfl ?_
      rintro _ _ ⟨rfl, rfl⟩
      by_cases hu : sp_rest tw σ m s = true
      · rw [if_pos hu]
        refine hg_if_ne (tgt := 98) d_D_feign_92 (by decide) (fun h_3 => ?_) (fun h_3 => absurd (by decide) h_3)
        refine hg_iload4 d_D_feign_98 ?_
        refine hg_if_ne (tgt := 107) d_D_feign_100 (by decide) (fun hc0 => ?_) (fun hc0 => ?_)
        · refine hg_iinc4 (v := nI ((hs_cnt (sp_fok tw σ m) s) + 1)) d_D_feign_107 rfl (nI_add _ _) ?_
          refine hg_iinc6 (v := nI (s + 1)) d_D_feign_110 rfl (nI_add _ _) ?_
          refine hg_goto (tgt := 70) d_D_feign_113 (by decide) ?_
          have := ih (s + 1) (by omega)
          have hok : sp_fok tw σ m s = true := by unfold sp_fok; rw [hsub, hu]; rfl
          rwa [show hs_cnt (sp_fok tw σ m) (s + 1) = hs_cnt (sp_fok tw σ m) s + 1 from if_pos hok, show hs_fst (sp_fok tw σ m) (s + 1) = hs_fst (sp_fok tw σ m) s from if_neg (fun z => hc0 (by rw [z.2]; rfl))] at this
        · replace hc0 := Decidable.not_not.mp hc0
          refine hg_iload6 d_D_feign_103 ?_
          refine hg_istore5 d_D_feign_105 rfl ?_
          refine hg_iinc4 (v := nI ((hs_cnt (sp_fok tw σ m) s) + 1)) d_D_feign_107 rfl (nI_add _ _) ?_
          refine hg_iinc6 (v := nI (s + 1)) d_D_feign_110 rfl (nI_add _ _) ?_
          refine hg_goto (tgt := 70) d_D_feign_113 (by decide) ?_
          have := ih (s + 1) (by omega)
          have hok : sp_fok tw σ m s = true := by unfold sp_fok; rw [hsub, hu]; rfl
          have hc1 : hs_cnt (sp_fok tw σ m) s = 0 := (nI_eq (by omega) (by decide)).mp (show nI _ = nI 0 from hc0)
          rwa [show hs_cnt (sp_fok tw σ m) (s + 1) = hs_cnt (sp_fok tw σ m) s + 1 from if_pos hok, show hs_fst (sp_fok tw σ m) (s + 1) = nI s from if_pos ⟨hok, hc1⟩] at this
      · rw [if_neg hu]
        refine hg_if_ne (tgt := 98) d_D_feign_92 (by decide) (fun h_4 => absurd h_4 (by decide)) (fun h_4 => ?_)
        refine hg_goto (tgt := 110) d_D_feign_95 (by decide) ?_
        refine hg_iinc6 (v := nI (s + 1)) d_D_feign_110 rfl (nI_add _ _) ?_
        refine hg_goto (tgt := 70) d_D_feign_113 (by decide) ?_
        have := ih (s + 1) (by omega)
        have hok : ¬ sp_fok tw σ m s = true := by unfold sp_fok; rw [Bool.and_eq_true]; exact fun z => hu z.2
        rwa [show hs_cnt (sp_fok tw σ m) (s + 1) = hs_cnt (sp_fok tw σ m) s from if_neg hok, show hs_fst (sp_fok tw σ m) (s + 1) = hs_fst (sp_fok tw σ m) s from if_neg (fun z => hok z.1)] at this
theorem m_D_feign1 {m b : Nat} (hE : hq_E T tw σ I Rf X) (hw : hs_wk σ ≤ 9999) (hm0 : 0 < m) (hm : m ≤ 6) (hb : b < 2) : ∀ (r s : Nat) (I1 : Nat → Nat → Nat → Int32) (Rf1 : Nat → Nat → Nat → Option (Nat × Nat)), s + r = ((hs_opn σ (hs_n σ)) + 1) → hg_sc I1 I → hg_rx Rf1 Rf → (∀ s2, s2 < s → hs_sub s2 (hs_opn σ (hs_n σ)) = true → ∀ h, h < hs_n σ → I1 18 0 (6 * s2 + h) = hs_hv (sp_fg tw σ m s2) h 4) → hg_WP l E (d + 7) Y_D_feign 0 0 32 [some (.ref (hg_ad E 0 0)), some (.int (nI m)), some (.int (nI b)), some (.int (nI (hs_opn σ (hs_n σ)))), some (.int (nI s)), none, none] [] (I1, Lg, Rf1, X) (hg_i (fun v M' => hq_A v (sp_feign tw σ (nI m) (nI b)) I Lg Rf X M')) := by
  obtain ⟨-, -, -, hO0, -⟩ := id hE
  have hn6 := hO0.1
  have ho64 := hs_opn_64 (σ := σ) hn6
  intro r
  induction r with
  | zero =>
    intro s I1 Rf1 hsr hs hr hd
    obtain ⟨hX, hR, hC, hO, hW⟩ := hE.sc hs hr
    obtain rfl : s = ((hs_opn σ (hs_n σ)) + 1) := by omega
    refine hg_iload4 d_D_feign_32 ?_
    refine hg_iload3 d_D_feign_34 ?_
    refine hg_icmp_gt (tgt := 60) d_D_feign_35 (by decide) (fun h_1 => ?_) (fun h_1 => absurd ((nI_ltI (by omega) (by omega)).mpr (by omega)) h_1)
    refine hg_iconst (v := 0) d_D_feign_60 (by decide) ?_
    refine hg_istore4 d_D_feign_61 rfl ?_
    refine hg_bipush (v := (-5)) d_D_feign_63 (by decide) ?_
    refine hg_istore5 d_D_feign_65 rfl ?_
    refine hg_iconst (v := 0) d_D_feign_67 (by decide) ?_
    refine hg_istore6 d_D_feign_68 rfl ?_
    exact m_D_feign2 hE hw hm0 hm hb hs hr (fun s2 h2 => hd s2 (by omega)) _ 0 (Nat.zero_add _)
  | succ r ih =>
    intro s I1 Rf1 hsr hs hr hd
    obtain ⟨hX, hR, hC, hO, hW⟩ := hE.sc hs hr
    have hsb := fg_sub s (by omega) _ ho64
    refine hg_iload4 d_D_feign_32 ?_
    refine hg_iload3 d_D_feign_34 ?_
    refine hg_icmp_gt (tgt := 60) d_D_feign_35 (by decide) (fun h_2 => absurd h_2 (fun z => by rw [nI_ltI (by omega) (by omega)] at z; omega)) (fun h_2 => ?_)
    refine hg_iload4 d_D_feign_38 ?_
    refine hg_iload3 d_D_feign_40 ?_
    refine hg_iconst (v := (-1)) d_D_feign_41 (by decide) ?_
    refine hg_ixor d_D_feign_42 ?_
    refine hg_iand d_D_feign_43 ?_
    refine hg_if_ne (tgt := 54) d_D_feign_44 (by decide) (fun hsu => ?_) (fun hsu => ?_)
    · refine hg_iinc4 (v := nI (s + 1)) d_D_feign_54 rfl (nI_add _ _) ?_
      refine hg_goto (tgt := 32) d_D_feign_57 (by decide) ?_
      refine ih (s + 1) I1 Rf1 (by omega) hs hr (fun s2 h2 hsb2 h hh => ?_)
      by_cases e : s2 = s
      · subst e; exact absurd (hsb.mpr hsb2) hsu
      · exact hd s2 (by omega) hsb2 h hh
    · replace hsu := Decidable.not_not.mp hsu
      refine hg_aload0 d_D_feign_47 ?_
      refine hg_iload4 d_D_feign_48 ?_
      refine hg_iload1 d_D_feign_50 ?_
      refine hg_cVv d_D_feign_51 l_D_205 rfl rfl (hX.lt (n := 1) ⟨by decide, by decide⟩ rfl (by omega)) rfl (Nat.le_of_ble_eq_true rfl) (m_D_dineBySet (hE.sc hs hr) hw hm0 hm (by omega)) rfl ?_
      rintro _ ⟨I2, Rf2, rfl, hs2, hr2, hd2, hd3⟩
      refine hg_iinc4 (v := nI (s + 1)) d_D_feign_54 rfl (nI_add _ _) ?_
      refine hg_goto (tgt := 32) d_D_feign_57 (by decide) ?_
      refine ih (s + 1) I2 Rf2 (by omega) (hs2.tr hs) (hr2.tr hr) (fun s2 h2 hsb2 h hh => ?_)
      by_cases e : s2 = s
      · subst e; exact hd2 h hh
      · rw [hd3 _ (by omega)]; exact hd s2 (by omega) hsb2 h hh
theorem m_D_feign {n x : Int32} (hE : hq_E T tw σ I Rf X) (hw : hs_wk σ ≤ 9999) : hg_MC l E (d + 8) Y_D_feign 0 0 [.ref (hg_ad E 0 0), .int n, .int x] (I, Lg, Rf, X) (hg_i (fun v M' => hq_A v (sp_feign tw σ n x) I Lg Rf X M')) := by
  obtain ⟨hX, hR, hC, hO, hW⟩ := id hE
  have hn6 := hO.1
  refine hg_mc k_D_feign (Nat.le_of_ble_eq_true rfl) ?_
  show hg_WP l E _ Y_D_feign 0 0 0 [some (.ref (hg_ad E 0 0)), some (.int n), some (.int x), none, none, none, none] [] (I, Lg, Rf, X) _
  refine hg_iload2 d_D_feign_0 ?_
  refine hg_iconst (v := 1) d_D_feign_1 (by decide) ?_
  refine hg_cSi d_D_feign_2 l_D_80 rfl (Nat.le_of_ble_eq_true rfl) (m_D_within (b := 1) (by decide)) rfl ?_
  rintro _ _ ⟨⟨hhc, rfl⟩ | ⟨hhc, rfl⟩, rfl⟩
  · obtain ⟨b, hb, eb⟩ := hhc
    have ihc : hs_ix 2 x = some b := by rw [eb]; exact hs_ix_s (by omega) (by decide)
    subst eb
    show hg_WP l E _ Y_D_feign 0 0 5 [some (.ref (hg_ad E 0 0)), some (.int n), some (.int (nI b)), none, none, none, none] [.int 1] (I, Lg, Rf, X) _
    refine hg_if_ne (tgt := 10) d_D_feign_5 (by decide) (fun h_1 => ?_) (fun h_1 => absurd (by decide) h_1)
    refine hg_iload1 d_D_feign_10 ?_
    refine hg_iconst (v := 1) d_D_feign_11 (by decide) ?_
    refine hg_icmp_lt (tgt := 21) d_D_feign_12 (by decide) (fun h1 => ?_) (fun h1 => ?_)
    · have hz : hs_ix 7 n = none ∨ hs_ix 7 n = some 0 := hg_lo1 h1
      refine hg_bipush (v := (-2)) d_D_feign_21 (by decide) ?_
      refine hg_ireturn d_D_feign_23 rfl rfl ?_
      refine ⟨?_, I, Rf, rfl, hg_sc.rf, hg_rx.rf⟩
      unfold sp_feign; rw [ihc]; rcases hz with z | z <;> rw [z] <;> rfl
    · refine hg_iload1 d_D_feign_15 ?_
      refine hg_bipush (v := 6) d_D_feign_16 (by decide) ?_
      refine hg_icmp_le (tgt := 24) d_D_feign_18 (by decide) (fun h2 => ?_) (fun h2 => ?_)
      · obtain ⟨m, hm0, hm, rfl⟩ := hg_in1 (b := 6) (by decide) h1 h2
        refine hg_aload0 d_D_feign_24 ?_
        refine hg_cVi d_D_feign_25 l_D_202 rfl rfl (hX.lt (n := 1) ⟨by decide, by decide⟩ rfl (by omega)) rfl (Nat.le_of_ble_eq_true rfl) (m_D_openOnes hE) rfl ?_
        rintro _ _ ⟨rfl, rfl⟩
        refine hg_istore3 d_D_feign_28 rfl ?_
        refine hg_iconst (v := 0) d_D_feign_29 (by decide) ?_
        refine hg_istore4 d_D_feign_30 rfl ?_
        exact m_D_feign1 hE hw hm0 hm (by omega) _ 0 I Rf (Nat.zero_add _) hg_sc.rf hg_rx.rf (fun s2 h2 => absurd h2 (Nat.not_lt_zero _))
      · have hz : hs_ix 7 n = none ∨ hs_ix 7 n = some 0 := Or.inl (hs_ix_n (fun ⟨j, hj, e⟩ => h2 (by rw [e]; exact (nI_leI (b := 6) (by omega) (by decide)).mpr (by omega))))
        refine hg_bipush (v := (-2)) d_D_feign_21 (by decide) ?_
        refine hg_ireturn d_D_feign_23 rfl rfl ?_
        refine ⟨?_, I, Rf, rfl, hg_sc.rf, hg_rx.rf⟩
        unfold sp_feign; rw [ihc]; rcases hz with z | z <;> rw [z] <;> rfl
  · have ihc : hs_ix 2 x = none := hs_ix_n2 hhc
    refine hg_if_ne (tgt := 10) d_D_feign_5 (by decide) (fun h_2 => absurd h_2 (by decide)) (fun h_2 => ?_)
    refine hg_iconst (v := (-1)) d_D_feign_8 (by decide) ?_
    refine hg_ireturn d_D_feign_9 rfl rfl ?_
    refine ⟨?_, I, Rf, rfl, hg_sc.rf, hg_rx.rf⟩
    simp [sp_feign, ihc]

end M12
