/-! the model: its TOWNS' tables; what it asks of one -/
/-- only the stack of a CLAUSE changed -/
def hm_e (I' I : Nat → Nat → Nat → Int32) : Prop := ∀ q, q ≠ 24 → I' q = I q
def hm_A {α : Type} (v r : α) (I : Nat → Nat → Nat → Int32) (Lg : Nat → Nat → Nat → Int64) (Rf : Nat → Nat → Nat → Option (Nat × Nat)) (X : Nat × (Nat → Nat) × (Nat → Nat → Nat)) (M' : hg_M) : Prop := v = r ∧ ∃ I' : Nat → Nat → Nat → Int32, M' = (I', Lg, Rf, X) ∧ hm_e I' I
def mt_in (W N : Nat → Nat) (D : Nat → (Nat → Int32) → Bool) (f : Nat → Int32) (i : Nat) : Int32 := if W i < 2 then (if D i f = true then (if W i = 0 then nI (N i) else -nI (N i)) else 0) else 0
def mt_sm (W N : Nat → Nat) (D : Nat → (Nat → Int32) → Bool) (f : Nat → Int32) : Nat → Int32
  | 0 => 0
  | i + 1 => mt_sm W N D f i + mt_in W N D f i
def mt_il (W N : Nat → Nat) : Nat → Int32
  | 0 => 60
  | i + 1 => if W i = 2 then nI (N i) else mt_il W N i
theorem mt_s2 {W N : Nat → Nat} {D : Nat → (Nat → Int32) → Bool} {f : Nat → Int32} {i : Nat} {x : Int32} (h : ¬ W i < 2) : x + mt_sm W N D f i = x + mt_sm W N D f (i + 1) := by
  show _ = x + (mt_sm W N D f i + mt_in W N D f i)
  rw [mt_in, if_neg h, Int32.add_zero]
theorem mt_sf {W N : Nat → Nat} {D : Nat → (Nat → Int32) → Bool} {f : Nat → Int32} {i : Nat} {x : Int32} (h : W i < 2) (hD : ¬ D i f = true) : x + mt_sm W N D f i = x + mt_sm W N D f (i + 1) := by
  show _ = x + (mt_sm W N D f i + mt_in W N D f i)
  rw [mt_in, if_pos h, if_neg hD, Int32.add_zero]
theorem mt_s0 {W N : Nat → Nat} {D : Nat → (Nat → Int32) → Bool} {f : Nat → Int32} {i : Nat} {x : Int32} (h0 : W i = 0) (hD : D i f = true) : x + mt_sm W N D f i + nI (N i) = x + mt_sm W N D f (i + 1) := by
  show _ = x + (mt_sm W N D f i + mt_in W N D f i)
  rw [mt_in, if_pos (by omega), if_pos hD, if_pos h0, Int32.add_assoc]
theorem mt_s1 {W N : Nat → Nat} {D : Nat → (Nat → Int32) → Bool} {f : Nat → Int32} {i : Nat} {x : Int32} (h : W i < 2) (h0 : ¬ W i = 0) (hD : D i f = true) : x + mt_sm W N D f i + -nI (N i) = x + mt_sm W N D f (i + 1) := by
  show _ = x + (mt_sm W N D f i + mt_in W N D f i)
  rw [mt_in, if_pos h, if_pos hD, if_neg h0, Int32.add_assoc]
/-- TOWN t's CLAUSES, its codes below c -/
def hs_Mt (t c : Nat) (w : ((Nat → Int32) → Int32) × Int32) (I : Nat → Nat → Nat → Int32) : Prop := ∃ (m : Nat) (W N : Nat → Nat) (D : Nat → (Nat → Int32) → Bool), m ≤ 10 ∧ I 22 10 t = nI m ∧
  (∀ i, i < m → W i ≤ 2 ∧ I 22 11 (10 * t + i) = nI (W i) ∧ N i ≤ 99 ∧ I 22 12 (10 * t + i) = nI (N i) ∧ (W i < 2 → ∃ b k : Nat, b + k ≤ c ∧ k ≤ 100 ∧ I 22 13 (10 * t + i) = nI b ∧ I 22 14 (10 * t + i) = nI k ∧ ps_me (I 22 15) b k (D i))) ∧
  (∀ f, w.1 f = mt_sm W N D (hs_N f) m) ∧ w.2 = mt_il W N m
def hs_MT (T : Nat) (tw : hs_W) (I : Nat → Nat → Nat → Int32) : Prop := T ≤ 6 ∧ (∀ f, (tw 0).1 f = 0) ∧ (tw 0).2 = 60 ∧ ∃ c : Nat, I 21 0 28 = nI c ∧ c ≤ 100 * T ∧ ∀ t, t < T → hs_Mt t c (tw (t + 1)) I
section M29
variable {l : Launch} {E : hg_E} {d T : Nat}
variable {I : Nat → Nat → Nat → Int32} {Lg : Nat → Nat → Nat → Int64} {Rf : Nat → Nat → Nat → Option (Nat × Nat)} {X : Nat × (Nat → Nat) × (Nat → Nat → Nat)}
variable {σ : hs_S} {tw : hs_W} {I' I1 : Nat → Nat → Nat → Int32}
theorem hm_e.rf : hm_e I I := fun _ _ => rfl
theorem hm_e.tr (h : hm_e I' I1) (h2 : hm_e I1 I) : hm_e I' I := fun q hq => (h q hq).trans (h2 q hq)
theorem hs_MS.e (h : hs_MS σ I) (e : hm_e I' I) : hs_MS σ I' := h.kp (fun _ _ => by rw [e 21 (by decide)]) (fun _ _ => by rw [e 22 (by decide)])
theorem hs_MT.e (h : hs_MT T tw I) (e : hm_e I' I) : hs_MT T tw I' := by
  unfold hs_MT hs_Mt at h ⊢; rw [e 21 (by decide), e 22 (by decide)]; exact h
theorem hg_pl_mod {n p i : Nat} (hp : p < n) (hi : i ≤ n) : (p + i) % n = hg_pl n p i := by
  unfold hg_pl; split
  · exact Nat.mod_eq_of_lt (by assumption)
  · rw [Nat.mod_eq_sub_mod (by omega), Nat.mod_eq_of_lt (by omega)]
theorem m_M_illFrom_loop {t m c : Nat} {W N : Nat → Nat} {D : Nat → (Nat → Int32) → Bool} (hX : hg_XS T X) (hR : hg_SR T Rf) (h21 : I 21 0 21 = nI t) (ht : t < 6) (hm : m ≤ 10) (h10 : I 22 10 t = nI m) (hc : ∀ i, i < m → W i ≤ 2 ∧ I 22 11 (10 * t + i) = nI (W i) ∧ N i ≤ 99 ∧ I 22 12 (10 * t + i) = nI (N i) ∧ (W i < 2 → ∃ b k : Nat, b + k ≤ c ∧ k ≤ 100 ∧ I 22 13 (10 * t + i) = nI b ∧ I 22 14 (10 * t + i) = nI k ∧ ps_me (I 22 15) b k (D i))) : ∀ (r i : Nat), i + r = m → hg_WP l E (d) Y_M_illFrom 0 0 5 [some (.ref (hg_ad E 21 0)), some (.int (mt_il W N i)), some (.int (nI i))] [] (I, Lg, Rf, X) (hg_i (fun v M' => v = mt_il W N m ∧ M' = (I, Lg, Rf, X))) := by
  intro r
  induction r with
  | zero =>
    intro i hir
    obtain rfl : i = m := by omega
    refine hg_aload0 d_M_illFrom_5 ?_
    refine hg_getI d_M_illFrom_6 f_M_104 rfl rfl (hX.lt (n := 1) ⟨by decide, by decide⟩ rfl (by omega)) ?_
    refine hg_eq1 (y := nI t) (h21) ?_
    refine hg_iconst (v := (-1)) d_M_illFrom_9 (by decide) ?_
    refine hg_icmp_eq (tgt := 65) d_M_illFrom_10 (by decide) (fun h_1 => absurd h_1 (fun z => absurd z (by rw [show (-1 : Int32) = -nI 1 from rfl]; intro z; have := congrArg Int32.toInt z; rw [nI_toInt (by omega)] at this; exact absurd this (by rw [show (-nI 1 : Int32).toInt = -1 by decide]; omega)))) (fun h_1 => ?_)
    refine hg_iload2 d_M_illFrom_13 ?_
    refine hg_aload0 d_M_illFrom_14 ?_
    refine hg_getR d_M_illFrom_15 f_M_42 rfl rfl (hX.lt (n := 1) ⟨by decide, by decide⟩ rfl (by omega)) (hR.m (j := 22) (q := (22, 10)) rfl) ?_
    refine hg_aload0 d_M_illFrom_18 ?_
    refine hg_getI d_M_illFrom_19 f_M_104 rfl rfl (hX.lt (n := 1) ⟨by decide, by decide⟩ rfl (by omega)) ?_
    refine hg_eq1 (y := nI t) (h21) ?_
    refine hg_iald_n (j := t) d_M_illFrom_22 rfl rfl (hX.lt (n := 28) ⟨by decide, by decide⟩ rfl (by omega)) (hX.jn (n := 6) (by decide) rfl (by omega)) ?_
    refine hg_eq1 (y := nI i) (h10) ?_
    refine hg_icmp_ge (tgt := 65) d_M_illFrom_23 (by decide) (fun h_2 => ?_) (fun h_2 => absurd (Int32.le_refl _) h_2)
    refine hg_iload1 d_M_illFrom_65 ?_
    refine hg_ireturn d_M_illFrom_66 rfl rfl ?_
    exact ⟨rfl, rfl⟩
  | succ r ih =>
    intro i hir
    obtain ⟨c1, c2, c3, c4, c5⟩ := hc i (by omega)
    refine hg_aload0 d_M_illFrom_5 ?_
    refine hg_getI d_M_illFrom_6 f_M_104 rfl rfl (hX.lt (n := 1) ⟨by decide, by decide⟩ rfl (by omega)) ?_
    refine hg_eq1 (y := nI t) (h21) ?_
    refine hg_iconst (v := (-1)) d_M_illFrom_9 (by decide) ?_
    refine hg_icmp_eq (tgt := 65) d_M_illFrom_10 (by decide) (fun h_3 => absurd h_3 (fun z => absurd z (by rw [show (-1 : Int32) = -nI 1 from rfl]; intro z; have := congrArg Int32.toInt z; rw [nI_toInt (by omega)] at this; exact absurd this (by rw [show (-nI 1 : Int32).toInt = -1 by decide]; omega)))) (fun h_3 => ?_)
    refine hg_iload2 d_M_illFrom_13 ?_
    refine hg_aload0 d_M_illFrom_14 ?_
    refine hg_getR d_M_illFrom_15 f_M_42 rfl rfl (hX.lt (n := 1) ⟨by decide, by decide⟩ rfl (by omega)) (hR.m (j := 22) (q := (22, 10)) rfl) ?_
    refine hg_aload0 d_M_illFrom_18 ?_
    refine hg_getI d_M_illFrom_19 f_M_104 rfl rfl (hX.lt (n := 1) ⟨by decide, by decide⟩ rfl (by omega)) ?_
    refine hg_eq1 (y := nI t) (h21) ?_
    refine hg_iald_n (j := t) d_M_illFrom_22 rfl rfl (hX.lt (n := 28) ⟨by decide, by decide⟩ rfl (by omega)) (hX.jn (n := 6) (by decide) rfl (by omega)) ?_
    refine hg_eq1 (y := nI m) (h10) ?_
    refine hg_icmp_ge (tgt := 65) d_M_illFrom_23 (by decide) (fun h_4 => absurd h_4 (nI_ge (by omega) (by omega))) (fun h_4 => ?_)
    refine hg_aload0 d_M_illFrom_26 ?_
    refine hg_getR d_M_illFrom_27 f_M_45 rfl rfl (hX.lt (n := 1) ⟨by decide, by decide⟩ rfl (by omega)) (hR.m (j := 23) (q := (22, 11)) rfl) ?_
    refine hg_bipush (v := 10) d_M_illFrom_30 (by decide) ?_
    refine hg_aload0 d_M_illFrom_32 ?_
    refine hg_getI d_M_illFrom_33 f_M_104 rfl rfl (hX.lt (n := 1) ⟨by decide, by decide⟩ rfl (by omega)) ?_
    refine hg_eq1 (y := nI t) (h21) ?_
    refine hg_imul d_M_illFrom_36 ?_
    refine hg_eq1 (y := nI (10 * t)) (pk_mul _ _) ?_
    refine hg_iload2 d_M_illFrom_37 ?_
    refine hg_iadd d_M_illFrom_38 ?_
    refine hg_eq1 (y := nI ((10 * t) + i)) (nI_add _ _) ?_
    refine hg_iald_n (j := ((10 * t) + i)) d_M_illFrom_39 rfl rfl (hX.lt (n := 28) ⟨by decide, by decide⟩ rfl (by omega)) (hX.jn (n := 61) (by decide) rfl (by omega)) ?_
    refine hg_eq1 (y := nI (W i)) (c2) ?_
    refine hg_iconst (v := 2) d_M_illFrom_40 (by decide) ?_
    refine hg_icmp_ne (tgt := 59) d_M_illFrom_41 (by decide) (fun h2 => ?_) (fun h2 => ?_)
    · refine hg_iinc2 (v := nI (i + 1)) d_M_illFrom_59 rfl (nI_add _ _) ?_
      refine hg_goto (tgt := 5) d_M_illFrom_62 (by decide) ?_
      have e : mt_il W N i = mt_il W N (i + 1) := by
        show _ = if W i = 2 then _ else _; rw [if_neg (fun z => h2 (by rw [z]; rfl))]
      rw [e]; exact ih (i + 1) (by omega)
    · replace h2 := Decidable.not_not.mp h2
      refine hg_aload0 d_M_illFrom_44 ?_
      refine hg_getR d_M_illFrom_45 f_M_48 rfl rfl (hX.lt (n := 1) ⟨by decide, by decide⟩ rfl (by omega)) (hR.m (j := 24) (q := (22, 12)) rfl) ?_
      refine hg_bipush (v := 10) d_M_illFrom_48 (by decide) ?_
      refine hg_aload0 d_M_illFrom_50 ?_
      refine hg_getI d_M_illFrom_51 f_M_104 rfl rfl (hX.lt (n := 1) ⟨by decide, by decide⟩ rfl (by omega)) ?_
      refine hg_eq1 (y := nI t) (h21) ?_
      refine hg_imul d_M_illFrom_54 ?_
      refine hg_eq1 (y := nI (10 * t)) (pk_mul _ _) ?_
      refine hg_iload2 d_M_illFrom_55 ?_
      refine hg_iadd d_M_illFrom_56 ?_
      refine hg_eq1 (y := nI ((10 * t) + i)) (nI_add _ _) ?_
      refine hg_iald_n (j := ((10 * t) + i)) d_M_illFrom_57 rfl rfl (hX.lt (n := 28) ⟨by decide, by decide⟩ rfl (by omega)) (hX.jn (n := 61) (by decide) rfl (by omega)) ?_
      refine hg_eq1 (y := nI (N i)) (c4) ?_
      refine hg_istore1 d_M_illFrom_58 rfl ?_
      refine hg_iinc2 (v := nI (i + 1)) d_M_illFrom_59 rfl (nI_add _ _) ?_
      refine hg_goto (tgt := 5) d_M_illFrom_62 (by decide) ?_
      have e : nI (N i) = mt_il W N (i + 1) := by
        show _ = if W i = 2 then _ else _; rw [if_pos ((nI_eq (b := 2) (by omega) (by decide)).mp h2)]
      rw [e]; exact ih (i + 1) (by omega)
theorem m_M_illFrom (hX : hg_XS T X) (hR : hg_SR T Rf) (hM : hs_MS σ I) (hO : hs_ok T σ) (hT : hs_MT T tw I) : hg_MC l E (d + 1) Y_M_illFrom 0 0 [.ref (hg_ad E 21 0)] (I, Lg, Rf, X) (hg_i (fun v M' => v = (tw (hs_tn σ)).2 ∧ M' = (I, Lg, Rf, X))) := by
  refine hg_mc k_M_illFrom (Nat.le_of_ble_eq_true rfl) ?_
  show hg_WP l E _ Y_M_illFrom 0 0 0 [some (.ref (hg_ad E 21 0)), none, none] [] (I, Lg, Rf, X) _
  refine hg_bipush (v := 60) d_M_illFrom_0 (by decide) ?_
  refine hg_istore1 d_M_illFrom_2 rfl ?_
  refine hg_iconst (v := 0) d_M_illFrom_3 (by decide) ?_
  refine hg_istore2 d_M_illFrom_4 rfl ?_
  rcases Nat.eq_zero_or_pos (hs_tn σ) with z | z
  · refine hg_aload0 d_M_illFrom_5 ?_
    refine hg_getI d_M_illFrom_6 f_M_104 rfl rfl (hX.lt (n := 1) ⟨by decide, by decide⟩ rfl (by omega)) ?_
    refine hg_eq1 (y := -1) (hM.2.2.2.2.2.1.trans (by rw [z]; decide)) ?_
    refine hg_iconst (v := (-1)) d_M_illFrom_9 (by decide) ?_
    refine hg_icmp_eq (tgt := 65) d_M_illFrom_10 (by decide) (fun h_1 => ?_) (fun h_1 => absurd (rfl) h_1)
    refine hg_iload1 d_M_illFrom_65 ?_
    refine hg_ireturn d_M_illFrom_66 rfl rfl ?_
    exact ⟨by rw [z]; exact hT.2.2.1.symm, rfl⟩
  · obtain ⟨t, et⟩ : ∃ t, hs_tn σ = t + 1 := ⟨hs_tn σ - 1, by omega⟩
    have ht2 := hO.2.2.2.2.2.2.2
    obtain ⟨hT6, _, _, c, hc0, hc1, hTt⟩ := hT
    obtain ⟨m, W, N, D, k1, k2, k3, k4, k5⟩ := hTt t (by omega)
    rw [show (tw (hs_tn σ)).2 = mt_il W N m from by rw [et]; exact k5]
    exact m_M_illFrom_loop hX hR (hM.2.2.2.2.2.1.trans (by rw [et]; exact nI_pred _)) (by omega) k1 k2 k3 m 0 (by omega)

theorem m_M_sum_loop {t m c : Nat} {W N : Nat → Nat} {D : Nat → (Nat → Int32) → Bool} {p : Nat} (hX : hg_XS T X) (hR : hg_SR T Rf) (hM : hs_MS σ I) (hO : hs_ok T σ) (hp : p < hs_n σ) (hc6 : c ≤ 800) (h21 : I 21 0 21 = nI t) (ht : t < 6) (hm : m ≤ 10) (h10 : I 22 10 t = nI m) (hc : ∀ i, i < m → W i ≤ 2 ∧ I 22 11 (10 * t + i) = nI (W i) ∧ N i ≤ 99 ∧ I 22 12 (10 * t + i) = nI (N i) ∧ (W i < 2 → ∃ b k : Nat, b + k ≤ c ∧ k ≤ 100 ∧ I 22 13 (10 * t + i) = nI b ∧ I 22 14 (10 * t + i) = nI k ∧ ps_me (I 22 15) b k (D i))) : ∀ (r i : Nat) (a4 : Option Value) (I1 : Nat → Nat → Nat → Int32), i + r = m → hm_e I1 I → hg_WP l E (d + 2) Y_M_sum 0 0 9 [some (.ref (hg_ad E 21 0)), some (.int (nI p)), some (.int (hs_hv σ p 2 + mt_sm W N D (hs_N (hs_f σ p)) i)), some (.int (nI i)), a4] [] (I1, Lg, Rf, X) (hg_i (fun v M' => hm_A v (hs_hv σ p 2 + mt_sm W N D (hs_N (hs_f σ p)) m) I Lg Rf X M')) := by
  have hn6 := hO.1
  intro r
  induction r with
  | zero =>
    intro i a4 I1 hir hq
    obtain rfl : i = m := by omega
    refine hg_aload0 d_M_sum_9 ?_
    refine hg_getI d_M_sum_10 f_M_104 rfl rfl (hX.lt (n := 1) ⟨by decide, by decide⟩ rfl (by omega)) ?_
    refine hg_eq1 (y := nI t) (by rw [hq 21 (by decide)]; exact h21) ?_
    refine hg_iconst (v := (-1)) d_M_sum_13 (by decide) ?_
    refine hg_icmp_eq (tgt := 99) d_M_sum_14 (by decide) (fun h_1 => absurd h_1 (fun z => absurd z (by rw [show (-1 : Int32) = -nI 1 from rfl]; intro z; have := congrArg Int32.toInt z; rw [nI_toInt (by omega)] at this; exact absurd this (by rw [show (-nI 1 : Int32).toInt = -1 by decide]; omega)))) (fun h_1 => ?_)
    refine hg_iload3 d_M_sum_17 ?_
    refine hg_aload0 d_M_sum_18 ?_
    refine hg_getR d_M_sum_19 f_M_42 rfl rfl (hX.lt (n := 1) ⟨by decide, by decide⟩ rfl (by omega)) (hR.m (j := 22) (q := (22, 10)) rfl) ?_
    refine hg_aload0 d_M_sum_22 ?_
    refine hg_getI d_M_sum_23 f_M_104 rfl rfl (hX.lt (n := 1) ⟨by decide, by decide⟩ rfl (by omega)) ?_
    refine hg_eq1 (y := nI t) (by rw [hq 21 (by decide)]; exact h21) ?_
    refine hg_iald_n (j := t) d_M_sum_26 rfl rfl (hX.lt (n := 28) ⟨by decide, by decide⟩ rfl (by omega)) (hX.jn (n := 6) (by decide) rfl (by omega)) ?_
    refine hg_eq1 (y := nI i) (by rw [hq 22 (by decide)]; exact h10) ?_
    refine hg_icmp_ge (tgt := 99) d_M_sum_27 (by decide) (fun h_2 => ?_) (fun h_2 => absurd (Int32.le_refl _) h_2)
    refine hg_iload2 d_M_sum_99 ?_
    refine hg_ireturn d_M_sum_100 rfl rfl ?_
    exact ⟨rfl, I1, rfl, hq⟩
  | succ r ih =>
    intro i a4 I1 hir hq
    obtain ⟨c1, c2, c3, c4, c5⟩ := hc i (by omega)
    refine hg_aload0 d_M_sum_9 ?_
    refine hg_getI d_M_sum_10 f_M_104 rfl rfl (hX.lt (n := 1) ⟨by decide, by decide⟩ rfl (by omega)) ?_
    refine hg_eq1 (y := nI t) (by rw [hq 21 (by decide)]; exact h21) ?_
    refine hg_iconst (v := (-1)) d_M_sum_13 (by decide) ?_
    refine hg_icmp_eq (tgt := 99) d_M_sum_14 (by decide) (fun h_3 => absurd h_3 (fun z => absurd z (by rw [show (-1 : Int32) = -nI 1 from rfl]; intro z; have := congrArg Int32.toInt z; rw [nI_toInt (by omega)] at this; exact absurd this (by rw [show (-nI 1 : Int32).toInt = -1 by decide]; omega)))) (fun h_3 => ?_)
    refine hg_iload3 d_M_sum_17 ?_
    refine hg_aload0 d_M_sum_18 ?_
    refine hg_getR d_M_sum_19 f_M_42 rfl rfl (hX.lt (n := 1) ⟨by decide, by decide⟩ rfl (by omega)) (hR.m (j := 22) (q := (22, 10)) rfl) ?_
    refine hg_aload0 d_M_sum_22 ?_
    refine hg_getI d_M_sum_23 f_M_104 rfl rfl (hX.lt (n := 1) ⟨by decide, by decide⟩ rfl (by omega)) ?_
    refine hg_eq1 (y := nI t) (by rw [hq 21 (by decide)]; exact h21) ?_
    refine hg_iald_n (j := t) d_M_sum_26 rfl rfl (hX.lt (n := 28) ⟨by decide, by decide⟩ rfl (by omega)) (hX.jn (n := 6) (by decide) rfl (by omega)) ?_
    refine hg_eq1 (y := nI m) (by rw [hq 22 (by decide)]; exact h10) ?_
    refine hg_icmp_ge (tgt := 99) d_M_sum_27 (by decide) (fun h_4 => absurd h_4 (nI_ge (by omega) (by omega))) (fun h_4 => ?_)
    refine hg_bipush (v := 10) d_M_sum_30 (by decide) ?_
    refine hg_aload0 d_M_sum_32 ?_
    refine hg_getI d_M_sum_33 f_M_104 rfl rfl (hX.lt (n := 1) ⟨by decide, by decide⟩ rfl (by omega)) ?_
    refine hg_eq1 (y := nI t) (by rw [hq 21 (by decide)]; exact h21) ?_
    refine hg_imul d_M_sum_36 ?_
    refine hg_eq1 (y := nI (10 * t)) (pk_mul _ _) ?_
    refine hg_iload3 d_M_sum_37 ?_
    refine hg_iadd d_M_sum_38 ?_
    refine hg_eq1 (y := nI ((10 * t) + i)) (nI_add _ _) ?_
    refine hg_istore4 d_M_sum_39 rfl ?_
    refine hg_aload0 d_M_sum_41 ?_
    refine hg_getR d_M_sum_42 f_M_45 rfl rfl (hX.lt (n := 1) ⟨by decide, by decide⟩ rfl (by omega)) (hR.m (j := 23) (q := (22, 11)) rfl) ?_
    refine hg_iload4 d_M_sum_45 ?_
    refine hg_iald_n (j := ((10 * t) + i)) d_M_sum_47 rfl rfl (hX.lt (n := 28) ⟨by decide, by decide⟩ rfl (by omega)) (hX.jn (n := 61) (by decide) rfl (by omega)) ?_
    refine hg_eq1 (y := nI (W i)) (by rw [hq 22 (by decide)]; exact c2) ?_
    refine hg_iconst (v := 2) d_M_sum_48 (by decide) ?_
    refine hg_icmp_ge (tgt := 93) d_M_sum_49 (by decide) (fun h2 => ?_) (fun h2 => ?_)
    · have h2n : ¬ W i < 2 := fun z => nI_ge (a := W i) (b := 2) z (by decide) h2
      refine hg_iinc3 (v := nI (i + 1)) d_M_sum_93 rfl (nI_add _ _) ?_
      refine hg_goto (tgt := 9) d_M_sum_96 (by decide) ?_
      have e : hs_hv σ p 2 + mt_sm W N D (hs_N (hs_f σ p)) i = hs_hv σ p 2 + mt_sm W N D (hs_N (hs_f σ p)) (i + 1) := mt_s2 h2n
      rw [e]; exact ih (i + 1) _ _ (by omega) hq
    · have h2n : W i < 2 := Nat.lt_of_not_le (fun z => h2 (nI_le (a := 2) (b := W i) z (by omega)))
      obtain ⟨b, k, g1, g2, g3, g4, g5⟩ := c5 h2n
      refine hg_aload0 d_M_sum_52 ?_
      refine hg_iload1 d_M_sum_53 ?_
      refine hg_iload4 d_M_sum_54 ?_
      refine hg_cVi d_M_sum_56 l_M_221 rfl rfl (hX.lt (n := 1) ⟨by decide, by decide⟩ rfl (by omega)) rfl (Nat.le_of_ble_eq_true rfl) (m_M_isTrue (den := D i) (cl := 10 * t + i) hX hR (hM.e hq) hO hp (by omega) (by rw [hq 22 (by decide)]; exact g3) (by rw [hq 22 (by decide)]; exact g4) (show b + k ≤ 800 by omega) g2 (by rw [hq 22 (by decide)]; exact g5)) rfl ?_
      rintro _ _ ⟨I2, rfl, rfl, hq2⟩
      by_cases hD : D i (hs_N (hs_f σ p)) = true
      · refine hg_eq1 (y := 1) (if_pos hD) ?_
        refine hg_if_eq (tgt := 93) d_M_sum_59 (by decide) (fun h_5 => absurd h_5 (by decide)) (fun h_5 => ?_)
        refine hg_iload2 d_M_sum_62 ?_
        refine hg_aload0 d_M_sum_63 ?_
        refine hg_getR d_M_sum_64 f_M_45 rfl rfl (hX.lt (n := 1) ⟨by decide, by decide⟩ rfl (by omega)) (hR.m (j := 23) (q := (22, 11)) rfl) ?_
        refine hg_iload4 d_M_sum_67 ?_
        refine hg_iald_n (j := ((10 * t) + i)) d_M_sum_69 rfl rfl (hX.lt (n := 28) ⟨by decide, by decide⟩ rfl (by omega)) (hX.jn (n := 61) (by decide) rfl (by omega)) ?_
        refine hg_eq1 (y := nI (W i)) (by rw [hq2 22 (by decide), hq 22 (by decide)]; exact c2) ?_
        refine hg_if_ne (tgt := 83) d_M_sum_70 (by decide) (fun h0 => ?_) (fun h0 => ?_)
        · have h0n : ¬ W i = 0 := fun z => h0 (by rw [z]; rfl)
          refine hg_aload0 d_M_sum_83 ?_
          refine hg_getR d_M_sum_84 f_M_48 rfl rfl (hX.lt (n := 1) ⟨by decide, by decide⟩ rfl (by omega)) (hR.m (j := 24) (q := (22, 12)) rfl) ?_
          refine hg_iload4 d_M_sum_87 ?_
          refine hg_iald_n (j := ((10 * t) + i)) d_M_sum_89 rfl rfl (hX.lt (n := 28) ⟨by decide, by decide⟩ rfl (by omega)) (hX.jn (n := 61) (by decide) rfl (by omega)) ?_
          refine hg_eq1 (y := nI (N i)) (by rw [hq2 22 (by decide), hq 22 (by decide)]; exact c4) ?_
          refine hg_ineg d_M_sum_90 ?_
          refine hg_iadd d_M_sum_91 ?_
          refine hg_istore2 d_M_sum_92 rfl ?_
          refine hg_iinc3 (v := nI (i + 1)) d_M_sum_93 rfl (nI_add _ _) ?_
          refine hg_goto (tgt := 9) d_M_sum_96 (by decide) ?_
          have e : (hs_hv σ p 2 + mt_sm W N D (hs_N (hs_f σ p)) i) + (-(nI (N i))) = hs_hv σ p 2 + mt_sm W N D (hs_N (hs_f σ p)) (i + 1) := mt_s1 h2n h0n hD
          rw [e]; exact ih (i + 1) _ _ (by omega) (hm_e.tr hq2 hq)
        · replace h0 := Decidable.not_not.mp h0
          have h0n : W i = 0 := (nI_eq (b := 0) (by omega) (by decide)).mp h0
          refine hg_aload0 d_M_sum_73 ?_
          refine hg_getR d_M_sum_74 f_M_48 rfl rfl (hX.lt (n := 1) ⟨by decide, by decide⟩ rfl (by omega)) (hR.m (j := 24) (q := (22, 12)) rfl) ?_
          refine hg_iload4 d_M_sum_77 ?_
          refine hg_iald_n (j := ((10 * t) + i)) d_M_sum_79 rfl rfl (hX.lt (n := 28) ⟨by decide, by decide⟩ rfl (by omega)) (hX.jn (n := 61) (by decide) rfl (by omega)) ?_
          refine hg_eq1 (y := nI (N i)) (by rw [hq2 22 (by decide), hq 22 (by decide)]; exact c4) ?_
          refine hg_goto (tgt := 91) d_M_sum_80 (by decide) ?_
          refine hg_iadd d_M_sum_91 ?_
          refine hg_istore2 d_M_sum_92 rfl ?_
          refine hg_iinc3 (v := nI (i + 1)) d_M_sum_93 rfl (nI_add _ _) ?_
          refine hg_goto (tgt := 9) d_M_sum_96 (by decide) ?_
          have e : (hs_hv σ p 2 + mt_sm W N D (hs_N (hs_f σ p)) i) + (nI (N i)) = hs_hv σ p 2 + mt_sm W N D (hs_N (hs_f σ p)) (i + 1) := mt_s0 h0n hD
          rw [e]; exact ih (i + 1) _ _ (by omega) (hm_e.tr hq2 hq)
      · refine hg_eq1 (y := 0) (if_neg hD) ?_
        refine hg_if_eq (tgt := 93) d_M_sum_59 (by decide) (fun h_6 => ?_) (fun h_6 => absurd (by decide) h_6)
        refine hg_iinc3 (v := nI (i + 1)) d_M_sum_93 rfl (nI_add _ _) ?_
        refine hg_goto (tgt := 9) d_M_sum_96 (by decide) ?_
        have e : hs_hv σ p 2 + mt_sm W N D (hs_N (hs_f σ p)) i = hs_hv σ p 2 + mt_sm W N D (hs_N (hs_f σ p)) (i + 1) := mt_sf h2n hD
        rw [e]; exact ih (i + 1) _ _ (by omega) (hm_e.tr hq2 hq)
theorem m_M_sum {p : Nat} (hX : hg_XS T X) (hR : hg_SR T Rf) (hM : hs_MS σ I) (hO : hs_ok T σ) (hT : hs_MT T tw I) (hp : p < hs_n σ) : hg_MC l E (d + 3) Y_M_sum 0 0 [.ref (hg_ad E 21 0), .int (nI p)] (I, Lg, Rf, X) (hg_i (fun v M' => hm_A v (hs_sum tw σ p) I Lg Rf X M')) := by
  have hn6 := hO.1
  refine hg_mc k_M_sum (Nat.le_of_ble_eq_true rfl) ?_
  show hg_WP l E _ Y_M_sum 0 0 0 [some (.ref (hg_ad E 21 0)), some (.int (nI p)), none, none, none] [] (I, Lg, Rf, X) _
  refine hg_aload0 d_M_sum_0 ?_
  refine hg_getR d_M_sum_1 f_M_18 rfl rfl (hX.lt (n := 1) ⟨by decide, by decide⟩ rfl (by omega)) (hR.m (j := 3) (q := (22, 2)) rfl) ?_
  refine hg_iload1 d_M_sum_4 ?_
  refine hg_iald_n (j := p) d_M_sum_5 rfl rfl (hX.lt (n := 28) ⟨by decide, by decide⟩ rfl (by omega)) (hX.jn (n := 6) (by decide) rfl (by omega)) ?_
  refine hg_eq1 (y := hs_hv σ p 2) (hM.2.2.2.2.2.2.2.1 p 2 hp (by decide)) ?_
  refine hg_istore2 d_M_sum_6 rfl ?_
  refine hg_iconst (v := 0) d_M_sum_7 (by decide) ?_
  refine hg_istore3 d_M_sum_8 rfl ?_
  rcases Nat.eq_zero_or_pos (hs_tn σ) with z | z
  · refine hg_aload0 d_M_sum_9 ?_
    refine hg_getI d_M_sum_10 f_M_104 rfl rfl (hX.lt (n := 1) ⟨by decide, by decide⟩ rfl (by omega)) ?_
    refine hg_eq1 (y := -1) (hM.2.2.2.2.2.1.trans (by rw [z]; decide)) ?_
    refine hg_iconst (v := (-1)) d_M_sum_13 (by decide) ?_
    refine hg_icmp_eq (tgt := 99) d_M_sum_14 (by decide) (fun h_1 => ?_) (fun h_1 => absurd (rfl) h_1)
    refine hg_iload2 d_M_sum_99 ?_
    refine hg_ireturn d_M_sum_100 rfl rfl ?_
    exact ⟨by unfold hs_sum; rw [z, hT.2.1, Int32.add_zero], I, rfl, hm_e.rf⟩
  · obtain ⟨t, et⟩ : ∃ t, hs_tn σ = t + 1 := ⟨hs_tn σ - 1, by omega⟩
    have ht2 := hO.2.2.2.2.2.2.2
    obtain ⟨hT6, _, _, c, hc0, hc1, hTt⟩ := hT
    obtain ⟨m, W, N, D, k1, k2, k3, k4, k5⟩ := hTt t (by omega)
    rw [show hs_sum tw σ p = hs_hv σ p 2 + mt_sm W N D (hs_N (hs_f σ p)) m from by unfold hs_sum; rw [et, k4]]
    have K := m_M_sum_loop (l := l) (E := E) (d := d) (Lg := Lg) hX hR hM hO hp (show c ≤ 800 by omega) (hM.2.2.2.2.2.1.trans (by rw [et]; exact nI_pred _)) (by omega) k1 k2 k3 m 0 none I (by omega) hm_e.rf
    rw [show hs_hv σ p 2 + mt_sm W N D (hs_N (hs_f σ p)) 0 = hs_hv σ p 2 from Int32.add_zero _] at K
    exact K

end M29
