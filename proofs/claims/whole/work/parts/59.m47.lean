/-! the model reads THE TEXT: signs, numbers, words, TESTS -/
def pm_X (n : Nat) (L : Nat → Int32) (I : Nat → Nat → Nat → Int32) : Prop := I 21 0 14 = nI n ∧ (∀ j, j < n → I 22 9 j = L j) ∧ n ≤ 100 ∧ ∀ j, j < n → ∃ c : Nat, c < 128 ∧ L j = nI c
/-- only what reading uses changed -/
def hm_p (I' I : Nat → Nat → Nat → Int32) : Prop := (∀ q, q ≠ 21 → q ≠ 22 → I' q = I q) ∧ (∀ j, ¬ ((16 ≤ j ∧ j ≤ 19) ∨ j = 28) → I' 21 0 j = I 21 0 j) ∧ ∀ r, r ≠ 15 → I' 22 r = I 22 r
/-- place and value alone -/
def hm_q (I' I : Nat → Nat → Nat → Int32) : Prop := (∀ q, q ≠ 21 → I' q = I q) ∧ ∀ j, ¬ (16 ≤ j ∧ j ≤ 18) → I' 21 0 j = I 21 0 j
def pm_P (w p : Nat) (R : ps_R) (I I' : Nat → Nat → Nat → Int32) (v : Int32) : Prop := v = (if R.1 = true then 1 else 0) ∧ I' 21 0 16 = nI R.2.1 ∧ I' 21 0 19 = I 21 0 19 ∧ hm_p I' I ∧ (∀ j, j < w → I' 22 15 j = I 22 15 j) ∧ ∃ k : Nat, p + k ≤ R.2.1 ∧ I' 21 0 28 = nI (w + k) ∧ (R.1 = true → ps_me (I' 22 15) w k R.2.2)
section M47
variable {l : Launch} {E : hg_E} {d T : Nat}
variable {I : Nat → Nat → Nat → Int32} {Lg : Nat → Nat → Nat → Int64} {Rf : Nat → Nat → Nat → Option (Nat × Nat)} {X : Nat × (Nat → Nat) × (Nat → Nat → Nat)}
variable {n : Nat} {L : Nat → Int32} {I' I1 I2 : Nat → Nat → Nat → Int32}
theorem hm_p.rf : hm_p I I := ⟨fun _ _ _ => rfl, fun _ _ => rfl, fun _ _ => rfl⟩
theorem hm_p.tr (h : hm_p I' I1) (h2 : hm_p I1 I) : hm_p I' I := ⟨fun q a b => (h.1 q a b).trans (h2.1 q a b), fun j a => (h.2.1 j a).trans (h2.2.1 j a), fun j a => (h.2.2 j a).trans (h2.2.2 j a)⟩
theorem hm_p.u21 {j : Nat} {x : Int32} (h : hm_p I' I) (hj : (16 ≤ j ∧ j ≤ 19) ∨ j = 28) : hm_p (hg_u3 I' 21 0 j x) I := ⟨fun q a b => by rw [← h.1 q a b]; funext y z; exact hg_u3k (fun v => a v.1), fun k hk => by rw [← h.2.1 k hk, hg_u3r, if_neg (fun e => hk (by rw [e]; exact hj))], fun r hr => by rw [← h.2.2 r hr]; funext z; exact hg_u3k (by omega)⟩
theorem hm_p.u22 {j : Nat} {x : Int32} (h : hm_p I' I) : hm_p (hg_u3 I' 22 15 j x) I := ⟨fun q a b => by rw [← h.1 q a b]; funext y z; exact hg_u3k (fun v => b v.1), fun k hk => by rw [← h.2.1 k hk]; exact hg_u3k (by omega), fun r hr => by rw [← h.2.2 r hr]; funext z; exact hg_u3k (fun v => hr v.2)⟩
theorem hm_q.rf : hm_q I I := ⟨fun _ _ => rfl, fun _ _ => rfl⟩
theorem hm_q.tr (h : hm_q I' I1) (h2 : hm_q I1 I) : hm_q I' I := ⟨fun q a => (h.1 q a).trans (h2.1 q a), fun j a => (h.2 j a).trans (h2.2 j a)⟩
theorem hm_q.u {j : Nat} {x : Int32} (h : hm_q I' I) (hj : 16 ≤ j ∧ j ≤ 18) : hm_q (hg_u3 I' 21 0 j x) I := ⟨fun q a => by rw [← h.1 q a]; funext y z; exact hg_u3k (fun v => a v.1), fun k hk => by rw [← h.2 k hk, hg_u3r, if_neg (fun e => hk (by rw [e]; exact hj))]⟩
theorem hm_q.p (h : hm_q I' I) : hm_p I' I := ⟨fun q a _ => h.1 q a, fun j hj => h.2 j (by omega), fun r _ => by rw [h.1 22 (by decide)]⟩
theorem pm_X.k (h : pm_X n L I) (e : hm_p I' I) : pm_X n L I' := by
  unfold pm_X at h ⊢; rw [e.2.1 14 (by omega), e.2.2 9 (by decide)]; exact h
theorem pm_X.q (h : pm_X n L I) (e : hm_q I' I) : pm_X n L I' := h.k e.p
theorem m_M_is {p : Nat} {c : Int32} (hX : hg_XS T X) (hR : hg_SR T Rf) (hx : pm_X n L I) (hp : I 21 0 16 = nI p) (hpn : p ≤ n) : hg_MC l E (d + 1) Y_M_is 0 0 [.ref (hg_ad E 21 0), .int c] (I, Lg, Rf, X) (hg_i (fun v M' => (ps_sg n L p c = true ∧ v = 1 ∧ M' = (hg_u3 I 21 0 16 (nI (p + 1)), Lg, Rf, X)) ∨ (ps_sg n L p c = false ∧ v = 0 ∧ M' = (I, Lg, Rf, X)))) := by
  have hn100 := hx.2.2.1
  refine hg_mc k_M_is (Nat.le_of_ble_eq_true rfl) ?_
  show hg_WP l E _ Y_M_is 0 0 0 [some (.ref (hg_ad E 21 0)), some (.int c)] [] (I, Lg, Rf, X) _
  refine hg_aload0 d_M_is_0 ?_
  refine hg_getI d_M_is_1 f_M_139 rfl rfl (hX.lt (n := 1) ⟨by decide, by decide⟩ rfl (by omega)) ?_
  refine hg_eq1 (y := nI p) (hp) ?_
  refine hg_aload0 d_M_is_4 ?_
  refine hg_getI d_M_is_5 f_M_136 rfl rfl (hX.lt (n := 1) ⟨by decide, by decide⟩ rfl (by omega)) ?_
  refine hg_eq1 (y := nI n) (hx.1) ?_
  refine hg_icmp_eq (tgt := 24) d_M_is_8 (by decide) (fun h1 => ?_) (fun h1 => ?_)
  · refine hg_iconst (v := 0) d_M_is_24 (by decide) ?_
    refine hg_ireturn d_M_is_25 rfl (by decide) ?_
    first | exact Or.inr ⟨ps_sg_f (fun z => by have := (nI_eq (show p < 2 ^ 31 by omega) (show n < 2 ^ 31 by omega)).mp h1; omega), rfl, rfl⟩ | exact Or.inr ⟨ps_sg_f (fun z => h2 z.2), rfl, rfl⟩
  · have hlt : p < n := by have : ¬ p = n := fun z => h1 (by rw [z]); omega
    refine hg_aload0 d_M_is_11 ?_
    refine hg_getR d_M_is_12 f_M_39 rfl rfl (hX.lt (n := 1) ⟨by decide, by decide⟩ rfl (by omega)) (hR.m (j := 15) (q := (22, 9)) rfl) ?_
    refine hg_aload0 d_M_is_15 ?_
    refine hg_getI d_M_is_16 f_M_139 rfl rfl (hX.lt (n := 1) ⟨by decide, by decide⟩ rfl (by omega)) ?_
    refine hg_eq1 (y := nI p) (hp) ?_
    refine hg_iald_n (j := p) d_M_is_19 rfl rfl (hX.lt (n := 28) ⟨by decide, by decide⟩ rfl (by omega)) (hX.jn (n := 100) (by decide) rfl (by omega)) ?_
    refine hg_eq1 (y := L p) (hx.2.1 p hlt) ?_
    refine hg_iload1 d_M_is_20 ?_
    refine hg_icmp_eq (tgt := 26) d_M_is_21 (by decide) (fun h2 => ?_) (fun h2 => ?_)
    · refine hg_aload0 d_M_is_26 ?_
      refine hg_dup d_M_is_27 rfl ?_
      refine hg_getI d_M_is_28 f_M_139 rfl rfl (hX.lt (n := 1) ⟨by decide, by decide⟩ rfl (by omega)) ?_
      refine hg_eq1 (y := nI p) (hp) ?_
      refine hg_iconst (v := 1) d_M_is_31 (by decide) ?_
      refine hg_iadd d_M_is_32 ?_
      refine hg_eq1 (y := nI (p + 1)) (nI_add _ _) ?_
      refine hg_putI d_M_is_33 f_M_139 rfl rfl (Or.inl rfl) rfl rfl (hX.lt (n := 1) ⟨by decide, by decide⟩ rfl (by omega)) ?_
      refine hg_iconst (v := 1) d_M_is_36 (by decide) ?_
      refine hg_ireturn d_M_is_37 rfl (by decide) ?_
      exact Or.inl ⟨decide_eq_true ⟨hlt, h2⟩, rfl, rfl⟩
    · refine hg_iconst (v := 0) d_M_is_24 (by decide) ?_
      refine hg_ireturn d_M_is_25 rfl (by decide) ?_
      first | exact Or.inr ⟨ps_sg_f (fun z => by have := (nI_eq (show p < 2 ^ 31 by omega) (show n < 2 ^ 31 by omega)).mp h1; omega), rfl, rfl⟩ | exact Or.inr ⟨ps_sg_f (fun z => h2 z.2), rfl, rfl⟩

theorem m_M_isDigit {p : Nat} (hX : hg_XS T X) (hR : hg_SR T Rf) (hx : pm_X n L I) (hp : I 21 0 16 = nI p) (hpn : p ≤ n) : hg_MC l E (d + 1) Y_M_isDigit 0 0 [.ref (hg_ad E 21 0)] (I, Lg, Rf, X) (hg_i (fun v M' => v = (if ps_dg n L p = true then 1 else 0) ∧ M' = (I, Lg, Rf, X))) := by
  have hn100 := hx.2.2.1
  refine hg_mc k_M_isDigit (Nat.le_of_ble_eq_true rfl) ?_
  show hg_WP l E _ Y_M_isDigit 0 0 0 [some (.ref (hg_ad E 21 0))] [] (I, Lg, Rf, X) _
  refine hg_aload0 d_M_isDigit_0 ?_
  refine hg_getI d_M_isDigit_1 f_M_139 rfl rfl (hX.lt (n := 1) ⟨by decide, by decide⟩ rfl (by omega)) ?_
  refine hg_eq1 (y := nI p) (hp) ?_
  refine hg_aload0 d_M_isDigit_4 ?_
  refine hg_getI d_M_isDigit_5 f_M_136 rfl rfl (hX.lt (n := 1) ⟨by decide, by decide⟩ rfl (by omega)) ?_
  refine hg_eq1 (y := nI n) (hx.1) ?_
  refine hg_icmp_ge (tgt := 43) d_M_isDigit_8 (by decide) (fun h1 => ?_) (fun h1 => ?_)
  · have hge : ¬ p < n := fun z => nI_ge z (by omega) h1
    refine hg_iconst (v := 0) d_M_isDigit_43 (by decide) ?_
    refine hg_ireturn d_M_isDigit_44 rfl (by decide) ?_
    exact ⟨(if_neg (fun z => hge (ps_dg_t z).1)).symm, rfl⟩
  · have hlt : p < n := Nat.lt_of_not_le (fun z => h1 (nI_le z (by omega)))
    refine hg_aload0 d_M_isDigit_11 ?_
    refine hg_getR d_M_isDigit_12 f_M_39 rfl rfl (hX.lt (n := 1) ⟨by decide, by decide⟩ rfl (by omega)) (hR.m (j := 15) (q := (22, 9)) rfl) ?_
    refine hg_aload0 d_M_isDigit_15 ?_
    refine hg_getI d_M_isDigit_16 f_M_139 rfl rfl (hX.lt (n := 1) ⟨by decide, by decide⟩ rfl (by omega)) ?_
    refine hg_eq1 (y := nI p) (hp) ?_
    refine hg_iald_n (j := p) d_M_isDigit_19 rfl rfl (hX.lt (n := 28) ⟨by decide, by decide⟩ rfl (by omega)) (hX.jn (n := 100) (by decide) rfl (by omega)) ?_
    refine hg_eq1 (y := L p) (hx.2.1 p hlt) ?_
    refine hg_bipush (v := 48) d_M_isDigit_20 (by decide) ?_
    refine hg_icmp_lt (tgt := 43) d_M_isDigit_22 (by decide) (fun h2 => ?_) (fun h2 => ?_)
    · refine hg_iconst (v := 0) d_M_isDigit_43 (by decide) ?_
      refine hg_ireturn d_M_isDigit_44 rfl (by decide) ?_
      exact ⟨(if_neg (fun z => absurd h2 (Int32.not_lt.mpr (ps_dg_t z).2.1))).symm, rfl⟩
    · refine hg_aload0 d_M_isDigit_25 ?_
      refine hg_getR d_M_isDigit_26 f_M_39 rfl rfl (hX.lt (n := 1) ⟨by decide, by decide⟩ rfl (by omega)) (hR.m (j := 15) (q := (22, 9)) rfl) ?_
      refine hg_aload0 d_M_isDigit_29 ?_
      refine hg_getI d_M_isDigit_30 f_M_139 rfl rfl (hX.lt (n := 1) ⟨by decide, by decide⟩ rfl (by omega)) ?_
      refine hg_eq1 (y := nI p) (hp) ?_
      refine hg_iald_n (j := p) d_M_isDigit_33 rfl rfl (hX.lt (n := 28) ⟨by decide, by decide⟩ rfl (by omega)) (hX.jn (n := 100) (by decide) rfl (by omega)) ?_
      refine hg_eq1 (y := L p) (hx.2.1 p hlt) ?_
      refine hg_bipush (v := 57) d_M_isDigit_34 (by decide) ?_
      refine hg_icmp_gt (tgt := 43) d_M_isDigit_36 (by decide) (fun h3 => ?_) (fun h3 => ?_)
      · refine hg_iconst (v := 0) d_M_isDigit_43 (by decide) ?_
        refine hg_ireturn d_M_isDigit_44 rfl (by decide) ?_
        exact ⟨(if_neg (fun z => absurd h3 (Int32.not_lt.mpr (ps_dg_t z).2.2))).symm, rfl⟩
      · refine hg_iconst (v := 1) d_M_isDigit_39 (by decide) ?_
        refine hg_goto (tgt := 44) d_M_isDigit_40 (by decide) ?_
        refine hg_ireturn d_M_isDigit_44 rfl (by decide) ?_
        exact ⟨(if_pos (decide_eq_true ⟨hlt, Int32.not_lt.mp h2, Int32.not_lt.mp h3⟩)).symm, rfl⟩

theorem m_M_isNumber {p : Nat} (hX : hg_XS T X) (hR : hg_SR T Rf) (hx : pm_X n L I) (hp : I 21 0 16 = nI p) (hpn : p ≤ n) : hg_MC l E (d + 2) Y_M_isNumber 0 0 [.ref (hg_ad E 21 0)] (I, Lg, Rf, X) (hg_i (fun v M' => ∃ I' : Nat → Nat → Nat → Int32, M' = (I', Lg, Rf, X) ∧ v = (if (ps_nm n L p).1 = true then 1 else 0) ∧ I' 21 0 16 = nI (ps_nm n L p).2.1 ∧ I' 21 0 17 = nI (ps_nm n L p).2.2 ∧ hm_q I' I)) := by
  have hn100 := hx.2.2.1
  refine hg_mc k_M_isNumber (Nat.le_of_ble_eq_true rfl) ?_
  show hg_WP l E _ Y_M_isNumber 0 0 0 [some (.ref (hg_ad E 21 0))] [] (I, Lg, Rf, X) _
  refine hg_aload0 d_M_isNumber_0 ?_
  refine hg_iconst (v := 0) d_M_isNumber_1 (by decide) ?_
  refine hg_putI d_M_isNumber_2 f_M_142 rfl rfl (Or.inl rfl) rfl rfl (hX.lt (n := 1) ⟨by decide, by decide⟩ rfl (by omega)) ?_
  refine hg_aload0 d_M_isNumber_5 ?_
  refine hg_iconst (v := 0) d_M_isNumber_6 (by decide) ?_
  refine hg_putI d_M_isNumber_7 f_M_145 rfl rfl (Or.inl rfl) rfl rfl (hX.lt (n := 1) ⟨by decide, by decide⟩ rfl (by omega)) ?_
  refine hg_aload0 d_M_isNumber_10 ?_
  refine hg_getI d_M_isNumber_11 f_M_145 rfl rfl (hX.lt (n := 1) ⟨by decide, by decide⟩ rfl (by omega)) ?_
  refine hg_eq1 (y := 0) (by simp [hg_u3]) ?_
  refine hg_iconst (v := 2) d_M_isNumber_14 (by decide) ?_
  refine hg_icmp_ge (tgt := 72) d_M_isNumber_15 (by decide) (fun h_1 => absurd h_1 (by decide)) (fun h_1 => ?_)
  refine hg_aload0 d_M_isNumber_18 ?_
  have hq0 : hm_q (hg_u3 (hg_u3 I 21 0 17 0) 21 0 18 0) I := ((hm_q.rf.u (by omega)).u (by omega))
  refine hg_cVi d_M_isNumber_19 l_M_148 rfl rfl (hX.lt (n := 1) ⟨by decide, by decide⟩ rfl (by omega)) rfl (Nat.le_of_ble_eq_true rfl) (m_M_isDigit (n := n) (L := L) (p := p) hX hR (hx.q hq0) (by simp [hg_u3, hp]) (by omega)) rfl ?_
  rintro _ _ ⟨rfl, rfl⟩
  by_cases hd0 : ps_dg n L p = true
  · refine hg_eq1 (y := 1) (if_pos hd0) ?_
    obtain ⟨hlt1, hlo1, hhi1⟩ := ps_dg_t hd0
    obtain ⟨c1, hc1, ec1⟩ := hx.2.2.2 _ hlt1
    rw [ec1] at hlo1 hhi1
    have hl1 := (nI_leI (a := 48) (by decide) (by omega)).mp hlo1
    have hh1 := (nI_leI (b := 57) (by omega) (by decide)).mp hhi1
    refine hg_if_eq (tgt := 72) d_M_isNumber_22 (by decide) (fun h_2 => absurd h_2 (by decide)) (fun h_2 => ?_)
    refine hg_aload0 d_M_isNumber_25 ?_
    refine hg_bipush (v := 10) d_M_isNumber_26 (by decide) ?_
    refine hg_aload0 d_M_isNumber_28 ?_
    refine hg_getI d_M_isNumber_29 f_M_142 rfl rfl (hX.lt (n := 1) ⟨by decide, by decide⟩ rfl (by omega)) ?_
    refine hg_eq1 (y := 0) (by simp [hg_u3]) ?_
    refine hg_imul d_M_isNumber_32 ?_
    refine hg_eq1 (y := 0) (by decide) ?_
    refine hg_aload0 d_M_isNumber_33 ?_
    refine hg_getR d_M_isNumber_34 f_M_39 rfl rfl (hX.lt (n := 1) ⟨by decide, by decide⟩ rfl (by omega)) (hR.m (j := 15) (q := (22, 9)) rfl) ?_
    refine hg_aload0 d_M_isNumber_37 ?_
    refine hg_getI d_M_isNumber_38 f_M_139 rfl rfl (hX.lt (n := 1) ⟨by decide, by decide⟩ rfl (by omega)) ?_
    refine hg_eq1 (y := I 21 0 16) (by simp [hg_u3]) ?_
    refine hg_eq1 (y := nI p) (hp) ?_
    refine hg_iald_n (j := p) d_M_isNumber_41 rfl rfl (hX.lt (n := 28) ⟨by decide, by decide⟩ rfl (by omega)) (hX.jn (n := 100) (by decide) rfl (by omega)) ?_
    refine hg_eq1 (y := I 22 9 p) (by simp [hg_u3]) ?_
    refine hg_eq1 (y := nI c1) ((hx.2.1 p hlt1).trans ec1) ?_
    refine hg_iadd d_M_isNumber_42 ?_
    refine hg_eq1 (y := nI (0 + c1)) (nI_add _ _) ?_
    refine hg_bipush (v := 48) d_M_isNumber_43 (by decide) ?_
    refine hg_isub d_M_isNumber_45 ?_
    refine hg_eq1 (y := nI (c1 - 48)) ((congrArg (· - (48 : Int32)) (by rw [Nat.zero_add])).trans (pk_sub (a := c1) (b := 48) (by omega))) ?_
    refine hg_putI d_M_isNumber_46 f_M_142 rfl rfl (Or.inl rfl) rfl rfl (hX.lt (n := 1) ⟨by decide, by decide⟩ rfl (by omega)) ?_
    refine hg_aload0 d_M_isNumber_49 ?_
    refine hg_dup d_M_isNumber_50 rfl ?_
    refine hg_getI d_M_isNumber_51 f_M_139 rfl rfl (hX.lt (n := 1) ⟨by decide, by decide⟩ rfl (by omega)) ?_
    refine hg_eq1 (y := I 21 0 16) (by simp [hg_u3]) ?_
    refine hg_eq1 (y := nI p) (hp) ?_
    refine hg_iconst (v := 1) d_M_isNumber_54 (by decide) ?_
    refine hg_iadd d_M_isNumber_55 ?_
    refine hg_eq1 (y := nI (p + 1)) (nI_add _ _) ?_
    refine hg_putI d_M_isNumber_56 f_M_139 rfl rfl (Or.inl rfl) rfl rfl (hX.lt (n := 1) ⟨by decide, by decide⟩ rfl (by omega)) ?_
    refine hg_aload0 d_M_isNumber_59 ?_
    refine hg_dup d_M_isNumber_60 rfl ?_
    refine hg_getI d_M_isNumber_61 f_M_145 rfl rfl (hX.lt (n := 1) ⟨by decide, by decide⟩ rfl (by omega)) ?_
    refine hg_eq1 (y := 0) (by simp [hg_u3]) ?_
    refine hg_iconst (v := 1) d_M_isNumber_64 (by decide) ?_
    refine hg_iadd d_M_isNumber_65 ?_
    refine hg_eq1 (y := 1) (by decide) ?_
    refine hg_putI d_M_isNumber_66 f_M_145 rfl rfl (Or.inl rfl) rfl rfl (hX.lt (n := 1) ⟨by decide, by decide⟩ rfl (by omega)) ?_
    refine hg_goto (tgt := 10) d_M_isNumber_69 (by decide) ?_
    refine hg_aload0 d_M_isNumber_10 ?_
    refine hg_getI d_M_isNumber_11 f_M_145 rfl rfl (hX.lt (n := 1) ⟨by decide, by decide⟩ rfl (by omega)) ?_
    refine hg_eq1 (y := 1) (by simp [hg_u3]) ?_
    refine hg_iconst (v := 2) d_M_isNumber_14 (by decide) ?_
    refine hg_icmp_ge (tgt := 72) d_M_isNumber_15 (by decide) (fun h_3 => absurd h_3 (by decide)) (fun h_3 => ?_)
    refine hg_aload0 d_M_isNumber_18 ?_
    have hq1 : hm_q (hg_u3 (hg_u3 (hg_u3 (hg_u3 (hg_u3 I 21 0 17 0) 21 0 18 0) 21 0 17 (nI (c1 - 48))) 21 0 16 (nI (p + 1))) 21 0 18 1) I := (((((hm_q.rf.u (by omega)).u (by omega)).u (by omega)).u (by omega)).u (by omega))
    refine hg_cVi d_M_isNumber_19 l_M_148 rfl rfl (hX.lt (n := 1) ⟨by decide, by decide⟩ rfl (by omega)) rfl (Nat.le_of_ble_eq_true rfl) (m_M_isDigit (n := n) (L := L) (p := (p + 1)) hX hR (hx.q hq1) (by simp [hg_u3]) (by omega)) rfl ?_
    rintro _ _ ⟨rfl, rfl⟩
    by_cases hd1 : ps_dg n L (p + 1) = true
    · refine hg_eq1 (y := 1) (if_pos hd1) ?_
      obtain ⟨hlt2, hlo2, hhi2⟩ := ps_dg_t hd1
      obtain ⟨c2, hc2, ec2⟩ := hx.2.2.2 _ hlt2
      rw [ec2] at hlo2 hhi2
      have hl2 := (nI_leI (a := 48) (by decide) (by omega)).mp hlo2
      have hh2 := (nI_leI (b := 57) (by omega) (by decide)).mp hhi2
      refine hg_if_eq (tgt := 72) d_M_isNumber_22 (by decide) (fun h_4 => absurd h_4 (by decide)) (fun h_4 => ?_)
      refine hg_aload0 d_M_isNumber_25 ?_
      refine hg_bipush (v := 10) d_M_isNumber_26 (by decide) ?_
      refine hg_aload0 d_M_isNumber_28 ?_
      refine hg_getI d_M_isNumber_29 f_M_142 rfl rfl (hX.lt (n := 1) ⟨by decide, by decide⟩ rfl (by omega)) ?_
      refine hg_eq1 (y := nI (c1 - 48)) (by simp [hg_u3]) ?_
      refine hg_imul d_M_isNumber_32 ?_
      refine hg_eq1 (y := nI (10 * (c1 - 48))) (pk_mul _ _) ?_
      refine hg_aload0 d_M_isNumber_33 ?_
      refine hg_getR d_M_isNumber_34 f_M_39 rfl rfl (hX.lt (n := 1) ⟨by decide, by decide⟩ rfl (by omega)) (hR.m (j := 15) (q := (22, 9)) rfl) ?_
      refine hg_aload0 d_M_isNumber_37 ?_
      refine hg_getI d_M_isNumber_38 f_M_139 rfl rfl (hX.lt (n := 1) ⟨by decide, by decide⟩ rfl (by omega)) ?_
      refine hg_eq1 (y := nI (p + 1)) (by simp [hg_u3]) ?_
      refine hg_iald_n (j := (p + 1)) d_M_isNumber_41 rfl rfl (hX.lt (n := 28) ⟨by decide, by decide⟩ rfl (by omega)) (hX.jn (n := 100) (by decide) rfl (by omega)) ?_
      refine hg_eq1 (y := I 22 9 (p + 1)) (by simp [hg_u3]) ?_
      refine hg_eq1 (y := nI c2) ((hx.2.1 (p + 1) hlt2).trans ec2) ?_
      refine hg_iadd d_M_isNumber_42 ?_
      refine hg_eq1 (y := nI ((10 * (c1 - 48)) + c2)) (nI_add _ _) ?_
      refine hg_bipush (v := 48) d_M_isNumber_43 (by decide) ?_
      refine hg_isub d_M_isNumber_45 ?_
      refine hg_eq1 (y := nI (10 * (c1 - 48) + (c2 - 48))) ((pk_sub (a := 10 * (c1 - 48) + c2) (b := 48) (by omega)).trans (congrArg nI (by omega))) ?_
      refine hg_putI d_M_isNumber_46 f_M_142 rfl rfl (Or.inl rfl) rfl rfl (hX.lt (n := 1) ⟨by decide, by decide⟩ rfl (by omega)) ?_
      refine hg_aload0 d_M_isNumber_49 ?_
      refine hg_dup d_M_isNumber_50 rfl ?_
      refine hg_getI d_M_isNumber_51 f_M_139 rfl rfl (hX.lt (n := 1) ⟨by decide, by decide⟩ rfl (by omega)) ?_
      refine hg_eq1 (y := nI (p + 1)) (by simp [hg_u3]) ?_
      refine hg_iconst (v := 1) d_M_isNumber_54 (by decide) ?_
      refine hg_iadd d_M_isNumber_55 ?_
      refine hg_eq1 (y := nI ((p + 1) + 1)) (nI_add _ _) ?_
      refine hg_putI d_M_isNumber_56 f_M_139 rfl rfl (Or.inl rfl) rfl rfl (hX.lt (n := 1) ⟨by decide, by decide⟩ rfl (by omega)) ?_
      refine hg_aload0 d_M_isNumber_59 ?_
      refine hg_dup d_M_isNumber_60 rfl ?_
      refine hg_getI d_M_isNumber_61 f_M_145 rfl rfl (hX.lt (n := 1) ⟨by decide, by decide⟩ rfl (by omega)) ?_
      refine hg_eq1 (y := 1) (by simp [hg_u3]) ?_
      refine hg_iconst (v := 1) d_M_isNumber_64 (by decide) ?_
      refine hg_iadd d_M_isNumber_65 ?_
      refine hg_eq1 (y := 2) (by decide) ?_
      refine hg_putI d_M_isNumber_66 f_M_145 rfl rfl (Or.inl rfl) rfl rfl (hX.lt (n := 1) ⟨by decide, by decide⟩ rfl (by omega)) ?_
      refine hg_goto (tgt := 10) d_M_isNumber_69 (by decide) ?_
      refine hg_aload0 d_M_isNumber_10 ?_
      refine hg_getI d_M_isNumber_11 f_M_145 rfl rfl (hX.lt (n := 1) ⟨by decide, by decide⟩ rfl (by omega)) ?_
      refine hg_eq1 (y := 2) (by simp [hg_u3]) ?_
      refine hg_iconst (v := 2) d_M_isNumber_14 (by decide) ?_
      refine hg_icmp_ge (tgt := 72) d_M_isNumber_15 (by decide) (fun h_5 => ?_) (fun h_5 => absurd (by decide) h_5)
      refine hg_aload0 d_M_isNumber_72 ?_
      refine hg_getI d_M_isNumber_73 f_M_145 rfl rfl (hX.lt (n := 1) ⟨by decide, by decide⟩ rfl (by omega)) ?_
      refine hg_eq1 (y := 2) (by simp [hg_u3]) ?_
      refine hg_if_le (tgt := 83) d_M_isNumber_76 (by decide) (fun h_6 => absurd h_6 (by decide)) (fun h_6 => ?_)
      refine hg_iconst (v := 1) d_M_isNumber_79 (by decide) ?_
      refine hg_goto (tgt := 84) d_M_isNumber_80 (by decide) ?_
      refine hg_ireturn d_M_isNumber_84 rfl (by decide) ?_
      have hnm : ps_nm n L p = (true, p + 2, 10 * (c1 - 48) + (c2 - 48)) := by unfold ps_nm ps_d; rw [if_pos hd0, if_pos hd1, ec1, ec2, nI_clamp (by omega), nI_clamp (by omega)]
      rw [hnm]
      exact ⟨_, rfl, rfl, (by simp [hg_u3]), (by simp [hg_u3]; first | done | rfl), ((((((((hm_q.rf.u (by omega)).u (by omega)).u (by omega)).u (by omega)).u (by omega)).u (by omega)).u (by omega)).u (by omega))⟩
    · refine hg_eq1 (y := 0) (if_neg hd1) ?_
      refine hg_if_eq (tgt := 72) d_M_isNumber_22 (by decide) (fun h_7 => ?_) (fun h_7 => absurd (by decide) h_7)
      refine hg_aload0 d_M_isNumber_72 ?_
      refine hg_getI d_M_isNumber_73 f_M_145 rfl rfl (hX.lt (n := 1) ⟨by decide, by decide⟩ rfl (by omega)) ?_
      refine hg_eq1 (y := 1) (by simp [hg_u3]) ?_
      refine hg_if_le (tgt := 83) d_M_isNumber_76 (by decide) (fun h_8 => absurd h_8 (by decide)) (fun h_8 => ?_)
      refine hg_iconst (v := 1) d_M_isNumber_79 (by decide) ?_
      refine hg_goto (tgt := 84) d_M_isNumber_80 (by decide) ?_
      refine hg_ireturn d_M_isNumber_84 rfl (by decide) ?_
      have hnm : ps_nm n L p = (true, p + 1, c1 - 48) := by unfold ps_nm ps_d; rw [if_pos hd0, if_neg hd1, ec1, nI_clamp (by omega)]
      rw [hnm]
      exact ⟨_, rfl, rfl, (by simp [hg_u3]), (by simp [hg_u3]; first | done | rfl), (((((hm_q.rf.u (by omega)).u (by omega)).u (by omega)).u (by omega)).u (by omega))⟩
  · refine hg_eq1 (y := 0) (if_neg hd0) ?_
    refine hg_if_eq (tgt := 72) d_M_isNumber_22 (by decide) (fun h_9 => ?_) (fun h_9 => absurd (by decide) h_9)
    refine hg_aload0 d_M_isNumber_72 ?_
    refine hg_getI d_M_isNumber_73 f_M_145 rfl rfl (hX.lt (n := 1) ⟨by decide, by decide⟩ rfl (by omega)) ?_
    refine hg_eq1 (y := 0) (by simp [hg_u3]) ?_
    refine hg_if_le (tgt := 83) d_M_isNumber_76 (by decide) (fun h_10 => ?_) (fun h_10 => absurd (by decide) h_10)
    refine hg_iconst (v := 0) d_M_isNumber_83 (by decide) ?_
    refine hg_ireturn d_M_isNumber_84 rfl (by decide) ?_
    have hnm : ps_nm n L p = (false, p, 0) := by unfold ps_nm; rw [if_neg hd0]
    rw [hnm]
    exact ⟨_, rfl, rfl, (by simp [hg_u3, hp]), (by simp [hg_u3]; first | done | rfl), ((hm_q.rf.u (by omega)).u (by omega))⟩

theorem m_M_isAll_loop {t : Nat} (hX : hg_XS T X) (hR : hg_SR T Rf) (hx : pm_X n L I) (ht : t < 5) : ∀ (k j p : Nat) (I1 : Nat → Nat → Nat → Int32), j + k = hg_sz t → I1 21 0 16 = nI p → p ≤ n → hm_q I1 I → hg_WP l E (d + 4) Y_M_isAll 0 0 2 [some (.ref (hg_ad E 21 0)), some (.ref (hg_ex E (10 + t))), some (.int (nI j))] [] (I1, Lg, Rf, X) (hg_i (fun v M' => ∃ I' : Nat → Nat → Nat → Int32, M' = (I', Lg, Rf, X) ∧ v = (if (ps_wd n L t k j p).1 = true then 1 else 0) ∧ I' 21 0 16 = nI (ps_wd n L t k j p).2 ∧ hm_q I' I)) := by
  have hsl := hg_sz_le t ht
  have hn100 := hx.2.2.1
  intro k
  induction k with
  | zero =>
    intro j p I1 hjk hp hpn hq
    obtain rfl : j = hg_sz t := by omega
    refine hg_iload2 d_M_isAll_2 ?_
    refine hg_aload1 d_M_isAll_3 ?_
    refine hg_cQi d_M_isAll_4 l_M_152 ht rfl rfl (Nat.le_of_ble_eq_true rfl) (m_JS_length ht) rfl ?_
    rintro _ _ ⟨rfl, rfl⟩
    refine hg_icmp_ge (tgt := 30) d_M_isAll_7 (by decide) (fun h_1 => ?_) (fun h_1 => absurd (Int32.le_refl _) h_1)
    refine hg_iconst (v := 1) d_M_isAll_30 (by decide) ?_
    refine hg_ireturn d_M_isAll_31 rfl (by decide) ?_
    exact ⟨I1, rfl, rfl, hp, hq⟩
  | succ k ih =>
    intro j p I1 hjk hp hpn hq
    refine hg_iload2 d_M_isAll_2 ?_
    refine hg_aload1 d_M_isAll_3 ?_
    refine hg_cQi d_M_isAll_4 l_M_152 ht rfl rfl (Nat.le_of_ble_eq_true rfl) (m_JS_length ht) rfl ?_
    rintro _ _ ⟨rfl, rfl⟩
    refine hg_icmp_ge (tgt := 30) d_M_isAll_7 (by decide) (fun h_2 => absurd h_2 (nI_ge (by omega) (by omega))) (fun h_2 => ?_)
    refine hg_aload0 d_M_isAll_10 ?_
    refine hg_aload1 d_M_isAll_11 ?_
    refine hg_iload2 d_M_isAll_12 ?_
    refine hg_cQi d_M_isAll_13 l_M_157 ht rfl rfl (Nat.le_of_ble_eq_true rfl) (m_JS_charAt (j := j) ht (by omega)) rfl ?_
    rintro _ _ ⟨rfl, rfl⟩
    refine hg_cVi d_M_isAll_16 l_M_161 rfl rfl (hX.lt (n := 1) ⟨by decide, by decide⟩ rfl (by omega)) rfl (Nat.le_of_ble_eq_true rfl) (m_M_is (n := n) (L := L) (p := p) (c := (hg_sc' t j)) hX hR (hx.q hq) hp (by omega)) rfl ?_
    rintro _ _ (⟨hsg, rfl, rfl⟩ | ⟨hsg, rfl, rfl⟩)
    · have hsglt := (ps_sg_t hsg).1
      refine hg_if_ne (tgt := 24) d_M_isAll_19 (by decide) (fun h_3 => ?_) (fun h_3 => absurd (by decide) h_3)
      refine hg_iinc2 (v := nI (j + 1)) d_M_isAll_24 rfl (nI_add _ _) ?_
      refine hg_goto (tgt := 2) d_M_isAll_27 (by decide) ?_
      have hu : ps_wd n L t (k + 1) j p = (if ps_sg n L p (hg_sc' t j) = true then ps_wd n L t k (j + 1) (p + 1) else (false, p)) := rfl
      rw [hu, if_pos hsg]
      exact ih (j + 1) (p + 1) _ (by omega) (by simp [hg_u3]) (by omega) (hq.u (by omega))
    · refine hg_if_ne (tgt := 24) d_M_isAll_19 (by decide) (fun h_4 => absurd h_4 (by decide)) (fun h_4 => ?_)
      refine hg_iconst (v := 0) d_M_isAll_22 (by decide) ?_
      refine hg_ireturn d_M_isAll_23 rfl (by decide) ?_
      have hu : ps_wd n L t (k + 1) j p = (false, p) := by show (if ps_sg n L p (hg_sc' t j) = true then _ else _) = _; rw [hsg]; rfl
      rw [hu]
      exact ⟨I1, rfl, rfl, hp, hq⟩
theorem m_M_isAll {t p : Nat} (hX : hg_XS T X) (hR : hg_SR T Rf) (hx : pm_X n L I) (hp : I 21 0 16 = nI p) (hpn : p ≤ n) (ht : t < 5) : hg_MC l E (d + 5) Y_M_isAll 0 0 [.ref (hg_ad E 21 0), .ref (hg_ex E (10 + t))] (I, Lg, Rf, X) (hg_i (fun v M' => ∃ I' : Nat → Nat → Nat → Int32, M' = (I', Lg, Rf, X) ∧ v = (if (ps_wd n L t (hg_sz t) 0 p).1 = true then 1 else 0) ∧ I' 21 0 16 = nI (ps_wd n L t (hg_sz t) 0 p).2 ∧ hm_q I' I)) := by
  refine hg_mc k_M_isAll (Nat.le_of_ble_eq_true rfl) ?_
  show hg_WP l E _ Y_M_isAll 0 0 0 [some (.ref (hg_ad E 21 0)), some (.ref (hg_ex E (10 + t))), none] [] (I, Lg, Rf, X) _
  refine hg_iconst (v := 0) d_M_isAll_0 (by decide) ?_
  refine hg_istore2 d_M_isAll_1 rfl ?_
  exact m_M_isAll_loop hX hR hx ht _ 0 p I (Nat.zero_add _) hp hpn hm_q.rf

theorem m_M_codes {w : Nat} {x : Int32} (hX : hg_XS T X) (hR : hg_SR T Rf) (hw : I 21 0 28 = nI w) (hw8 : w < 800) : hg_MC l E (d + 1) Y_M_codes 0 0 [.ref (hg_ad E 21 0), .int x] (I, Lg, Rf, X) (hg_i (fun v M' => v = 1 ∧ M' = (hg_u3 (hg_u3 I 21 0 28 (nI (w + 1))) 22 15 w x, Lg, Rf, X))) := by
  refine hg_mc k_M_codes (Nat.le_of_ble_eq_true rfl) ?_
  show hg_WP l E _ Y_M_codes 0 0 0 [some (.ref (hg_ad E 21 0)), some (.int x)] [] (I, Lg, Rf, X) _
  refine hg_aload0 d_M_codes_0 ?_
  refine hg_getR d_M_codes_1 f_M_57 rfl rfl (hX.lt (n := 1) ⟨by decide, by decide⟩ rfl (by omega)) (hR.m (j := 27) (q := (22, 15)) rfl) ?_
  refine hg_aload0 d_M_codes_4 ?_
  refine hg_dup d_M_codes_5 rfl ?_
  refine hg_getI d_M_codes_6 f_M_164 rfl rfl (hX.lt (n := 1) ⟨by decide, by decide⟩ rfl (by omega)) ?_
  refine hg_eq1 (y := nI w) (hw) ?_
  refine hg_dup_x1 d_M_codes_9 rfl rfl ?_
  refine hg_iconst (v := 1) d_M_codes_10 (by decide) ?_
  refine hg_iadd d_M_codes_11 ?_
  refine hg_eq1 (y := nI (w + 1)) (nI_add _ _) ?_
  refine hg_putI d_M_codes_12 f_M_164 rfl rfl (Or.inl rfl) rfl rfl (hX.lt (n := 1) ⟨by decide, by decide⟩ rfl (by omega)) ?_
  refine hg_iload1 d_M_codes_15 ?_
  refine hg_iast_n (j := w) d_M_codes_16 rfl rfl (hX.lt (n := 28) ⟨by decide, by decide⟩ rfl (by omega)) (hX.jn (n := 800) (by decide) rfl (by omega)) ?_
  refine hg_iconst (v := 1) d_M_codes_17 (by decide) ?_
  refine hg_ireturn d_M_codes_18 rfl (by decide) ?_
  exact ⟨rfl, rfl⟩

theorem m_M_isOpened {p q : Nat} {c : Int32} (hX : hg_XS T X) (hR : hg_SR T Rf) (hx : pm_X n L I) (hp : I 21 0 16 = nI p) (hpn : p ≤ n) (ho : I 21 0 19 = nI q) (hq : q ≤ 4) : hg_MC l E (d + 2) Y_M_isOpened 0 0 [.ref (hg_ad E 21 0), .int c] (I, Lg, Rf, X) (hg_i (fun v M' => (¬ q = 4 ∧ ps_sg n L p c = true ∧ v = 1 ∧ M' = (hg_u3 (hg_u3 I 21 0 16 (nI (p + 1))) 21 0 19 (nI (q + 1)), Lg, Rf, X)) ∨ ((q = 4 ∨ ps_sg n L p c = false) ∧ v = 0 ∧ M' = (I, Lg, Rf, X)))) := by
  have hn100 := hx.2.2.1
  refine hg_mc k_M_isOpened (Nat.le_of_ble_eq_true rfl) ?_
  show hg_WP l E _ Y_M_isOpened 0 0 0 [some (.ref (hg_ad E 21 0)), some (.int c)] [] (I, Lg, Rf, X) _
  refine hg_aload0 d_M_isOpened_0 ?_
  refine hg_getI d_M_isOpened_1 f_M_180 rfl rfl (hX.lt (n := 1) ⟨by decide, by decide⟩ rfl (by omega)) ?_
  refine hg_eq1 (y := nI q) (ho) ?_
  refine hg_iconst (v := 4) d_M_isOpened_4 (by decide) ?_
  refine hg_icmp_eq (tgt := 16) d_M_isOpened_5 (by decide) (fun h4 => ?_) (fun h4 => ?_)
  · refine hg_iconst (v := 0) d_M_isOpened_16 (by decide) ?_
    refine hg_ireturn d_M_isOpened_17 rfl (by decide) ?_
    exact Or.inr ⟨Or.inl ((nI_eq (b := 4) (by omega) (by decide)).mp h4), rfl, rfl⟩
  · have hq4 : ¬ q = 4 := fun z => h4 (by rw [z]; rfl)
    refine hg_aload0 d_M_isOpened_8 ?_
    refine hg_iload1 d_M_isOpened_9 ?_
    refine hg_cVi d_M_isOpened_10 l_M_161 rfl rfl (hX.lt (n := 1) ⟨by decide, by decide⟩ rfl (by omega)) rfl (Nat.le_of_ble_eq_true rfl) (m_M_is (n := n) (L := L) (p := p) (c := c) hX hR hx hp (by omega)) rfl ?_
    rintro _ _ (⟨hsg, rfl, rfl⟩ | ⟨hsg, rfl, rfl⟩)
    · have hsglt := (ps_sg_t hsg).1
      refine hg_if_ne (tgt := 18) d_M_isOpened_13 (by decide) (fun h_1 => ?_) (fun h_1 => absurd (by decide) h_1)
      refine hg_aload0 d_M_isOpened_18 ?_
      refine hg_dup d_M_isOpened_19 rfl ?_
      refine hg_getI d_M_isOpened_20 f_M_180 rfl rfl (hX.lt (n := 1) ⟨by decide, by decide⟩ rfl (by omega)) ?_
      refine hg_eq1 (y := I 21 0 19) (by simp [hg_u3]) ?_
      refine hg_eq1 (y := nI q) (ho) ?_
      refine hg_iconst (v := 1) d_M_isOpened_23 (by decide) ?_
      refine hg_iadd d_M_isOpened_24 ?_
      refine hg_eq1 (y := nI (q + 1)) (nI_add _ _) ?_
      refine hg_putI d_M_isOpened_25 f_M_180 rfl rfl (Or.inl rfl) rfl rfl (hX.lt (n := 1) ⟨by decide, by decide⟩ rfl (by omega)) ?_
      refine hg_iconst (v := 1) d_M_isOpened_28 (by decide) ?_
      refine hg_ireturn d_M_isOpened_29 rfl (by decide) ?_
      exact Or.inl ⟨hq4, hsg, rfl, rfl⟩
    · refine hg_if_ne (tgt := 18) d_M_isOpened_13 (by decide) (fun h_2 => absurd h_2 (by decide)) (fun h_2 => ?_)
      refine hg_iconst (v := 0) d_M_isOpened_16 (by decide) ?_
      refine hg_ireturn d_M_isOpened_17 rfl (by decide) ?_
      exact Or.inr ⟨Or.inr hsg, rfl, rfl⟩

theorem pm_nm_v {p : Nat} (hx : pm_X n L I) : (ps_nm n L p).2.2 < 100 := by
  have hd : ∀ q, ps_dg n L q = true → ps_d L q ≤ 9 := fun q h => by
    obtain ⟨h1, h2, h3⟩ := ps_dg_t h
    obtain ⟨c, hc, ec⟩ := hx.2.2.2 q h1
    unfold ps_d
    rw [ec] at h2 h3 ⊢
    rw [nI_clamp (by omega)]
    have := (nI_leI (b := 57) (by omega) (by decide)).mp h3
    omega
  unfold ps_nm
  split
  · rename_i h; have := hd _ h
    split
    · rename_i h'; have := hd _ h'; show 10 * ps_d L p + ps_d L (p + 1) < 100; omega
    · show ps_d L p < 100; omega
  · exact Nat.zero_lt_succ 99
theorem pm_z3 : hg_fc 3 0 (hg_sz 3) 0 = -1 := by decide
theorem pm_z4 : hg_fc 4 0 (hg_sz 4) 0 = -1 := by decide
theorem m_M_isTest {p w : Nat} (hX : hg_XS T X) (hR : hg_SR T Rf) (hx : pm_X n L I) (hp : I 21 0 16 = nI p) (hpn : p ≤ n) (hw : I 21 0 28 = nI w) (hw6 : w ≤ 600 + p) : hg_MC l E (d + 5) Y_M_isTest 0 0 [.ref (hg_ad E 21 0)] (I, Lg, Rf, X) (hg_i (fun v M' => ∃ I' : Nat → Nat → Nat → Int32, M' = (I', Lg, Rf, X) ∧ pm_P w p (ps_test n L p) I I' v)) := by
  have hn100 := hx.2.2.1
  refine hg_mc k_M_isTest (Nat.le_of_ble_eq_true rfl) ?_
  show hg_WP l E _ Y_M_isTest 0 0 0 [some (.ref (hg_ad E 21 0)), none, none] [] (I, Lg, Rf, X) _
  refine hg_aload0 d_M_isTest_0 ?_
  refine hg_getI d_M_isTest_1 f_M_139 rfl rfl (hX.lt (n := 1) ⟨by decide, by decide⟩ rfl (by omega)) ?_
  refine hg_eq1 (y := nI p) (hp) ?_
  refine hg_aload0 d_M_isTest_4 ?_
  refine hg_getI d_M_isTest_5 f_M_136 rfl rfl (hX.lt (n := 1) ⟨by decide, by decide⟩ rfl (by omega)) ?_
  refine hg_eq1 (y := nI n) (hx.1) ?_
  refine hg_icmp_ge (tgt := 40) d_M_isTest_8 (by decide) (fun h1 => ?_) (fun h1 => ?_)
  · have hAn : ps_ix n L 3 p = none := ps_ix_no (fun z => absurd z (fun z => nI_ge z (by omega) h1))
    refine hg_iconst (v := (-1)) d_M_isTest_40 (by decide) ?_
    refine hg_istore1 d_M_isTest_41 rfl ?_
    refine hg_iload1 d_M_isTest_42 ?_
    refine hg_if_ge (tgt := 48) d_M_isTest_43 (by decide) (fun h_1 => absurd h_1 (by decide)) (fun h_1 => ?_)
    refine hg_iconst (v := 0) d_M_isTest_46 (by decide) ?_
    refine hg_ireturn d_M_isTest_47 rfl (by decide) ?_
    have ht : ps_test n L p = (false, p, fun _ => false) := by unfold ps_test; rw [hAn]
    rw [ht]
    exact ⟨I, rfl, rfl, hp, rfl, hm_p.rf, fun j _ => rfl, 0, Nat.le_refl _, hw, fun z => absurd (show false = true from z) (by decide)⟩
  · have hlt : p < n := Nat.lt_of_not_le (fun z => h1 (nI_le z (by omega)))
    obtain ⟨c, hc, ec⟩ := hx.2.2.2 p hlt
    refine hg_aload0 d_M_isTest_11 ?_
    refine hg_getR d_M_isTest_12 f_M_39 rfl rfl (hX.lt (n := 1) ⟨by decide, by decide⟩ rfl (by omega)) (hR.m (j := 15) (q := (22, 9)) rfl) ?_
    refine hg_aload0 d_M_isTest_15 ?_
    refine hg_getI d_M_isTest_16 f_M_139 rfl rfl (hX.lt (n := 1) ⟨by decide, by decide⟩ rfl (by omega)) ?_
    refine hg_eq1 (y := nI p) (hp) ?_
    refine hg_iald_n (j := p) d_M_isTest_19 rfl rfl (hX.lt (n := 28) ⟨by decide, by decide⟩ rfl (by omega)) (hX.jn (n := 100) (by decide) rfl (by omega)) ?_
    refine hg_eq1 (y := nI c) ((hx.2.1 p hlt).trans ec) ?_
    refine hg_if_le (tgt := 40) d_M_isTest_20 (by decide) (fun h1z => ?_) (fun h1z => ?_)
    · have hc0 : c = 0 := Nat.le_zero.mp (Nat.le_of_not_lt (fun z => nI_ge (a := 0) (b := c) z (by omega) h1z))
      have hAn : ps_ix n L 3 p = none := ps_ix_no (fun _ => by rw [ec, hc0]; exact pm_z3)
      refine hg_iconst (v := (-1)) d_M_isTest_40 (by decide) ?_
      refine hg_istore1 d_M_isTest_41 rfl ?_
      refine hg_iload1 d_M_isTest_42 ?_
      refine hg_if_ge (tgt := 48) d_M_isTest_43 (by decide) (fun h_2 => absurd h_2 (by decide)) (fun h_2 => ?_)
      refine hg_iconst (v := 0) d_M_isTest_46 (by decide) ?_
      refine hg_ireturn d_M_isTest_47 rfl (by decide) ?_
      have ht : ps_test n L p = (false, p, fun _ => false) := by unfold ps_test; rw [hAn]
      rw [ht]
      exact ⟨I, rfl, rfl, hp, rfl, hm_p.rf, fun j _ => rfl, 0, Nat.le_refl _, hw, fun z => absurd (show false = true from z) (by decide)⟩
    · refine hg_ldcS (i := 3) (tx := "pkvodw") d_M_isTest_23 (by decide +kernel) ?_
      refine hg_aload0 d_M_isTest_25 ?_
      refine hg_getR d_M_isTest_26 f_M_39 rfl rfl (hX.lt (n := 1) ⟨by decide, by decide⟩ rfl (by omega)) (hR.m (j := 15) (q := (22, 9)) rfl) ?_
      refine hg_aload0 d_M_isTest_29 ?_
      refine hg_getI d_M_isTest_30 f_M_139 rfl rfl (hX.lt (n := 1) ⟨by decide, by decide⟩ rfl (by omega)) ?_
      refine hg_eq1 (y := nI p) (hp) ?_
      refine hg_iald_n (j := p) d_M_isTest_33 rfl rfl (hX.lt (n := 28) ⟨by decide, by decide⟩ rfl (by omega)) (hX.jn (n := 100) (by decide) rfl (by omega)) ?_
      refine hg_eq1 (y := nI c) ((hx.2.1 p hlt).trans ec) ?_
      refine hg_cQi d_M_isTest_34 l_M_169 (by decide) rfl rfl (Nat.le_of_ble_eq_true rfl) (m_JS_indexOf (t := 3) (c := c) (by decide) hc) rfl ?_
      rintro _ _ ⟨rfl, rfl⟩
      rcases hg_fc_or 3 (nI c) (hg_sz 3) 0 with hz | ⟨a, ha, hz⟩
      · rw [hz]
        have hAn : ps_ix n L 3 p = none := ps_ix_no (fun _ => by rw [ec]; exact hz)
        refine hg_goto (tgt := 41) d_M_isTest_37 (by decide) ?_
        refine hg_istore1 d_M_isTest_41 rfl ?_
        refine hg_iload1 d_M_isTest_42 ?_
        refine hg_if_ge (tgt := 48) d_M_isTest_43 (by decide) (fun h_3 => absurd h_3 (by decide)) (fun h_3 => ?_)
        refine hg_iconst (v := 0) d_M_isTest_46 (by decide) ?_
        refine hg_ireturn d_M_isTest_47 rfl (by decide) ?_
        have ht : ps_test n L p = (false, p, fun _ => false) := by unfold ps_test; rw [hAn]
        rw [ht]
        exact ⟨I, rfl, rfl, hp, rfl, hm_p.rf, fun j _ => rfl, 0, Nat.le_refl _, hw, fun z => absurd (show false = true from z) (by decide)⟩
      · rw [hz]
        have hak : a < hg_sz 3 := by omega
        have hAs : ps_ix n L 3 p = some a := by unfold ps_ix; rw [if_pos (by omega), ec, hz]; exact hs_ix_s hak (by decide)
        refine hg_goto (tgt := 41) d_M_isTest_37 (by decide) ?_
        refine hg_istore1 d_M_isTest_41 rfl ?_
        refine hg_iload1 d_M_isTest_42 ?_
        refine hg_if_ge (tgt := 48) d_M_isTest_43 (by decide) (fun h_4 => ?_) (fun h_4 => absurd (nI_le (a := 0) (b := a) (Nat.zero_le _) (by have := hg_sz_le 3 (by decide); omega)) h_4)
        refine hg_aload0 d_M_isTest_48 ?_
        refine hg_dup d_M_isTest_49 rfl ?_
        refine hg_getI d_M_isTest_50 f_M_139 rfl rfl (hX.lt (n := 1) ⟨by decide, by decide⟩ rfl (by omega)) ?_
        refine hg_eq1 (y := nI p) (hp) ?_
        refine hg_iconst (v := 1) d_M_isTest_53 (by decide) ?_
        refine hg_iadd d_M_isTest_54 ?_
        refine hg_eq1 (y := nI (p + 1)) (nI_add _ _) ?_
        refine hg_putI d_M_isTest_55 f_M_139 rfl rfl (Or.inl rfl) rfl rfl (hX.lt (n := 1) ⟨by decide, by decide⟩ rfl (by omega)) ?_
        refine hg_aload0 d_M_isTest_58 ?_
        refine hg_getI d_M_isTest_59 f_M_139 rfl rfl (hX.lt (n := 1) ⟨by decide, by decide⟩ rfl (by omega)) ?_
        refine hg_eq1 (y := nI (p + 1)) (by simp [hg_u3]) ?_
        refine hg_aload0 d_M_isTest_62 ?_
        refine hg_getI d_M_isTest_63 f_M_136 rfl rfl (hX.lt (n := 1) ⟨by decide, by decide⟩ rfl (by omega)) ?_
        refine hg_eq1 (y := I 21 0 14) (by simp [hg_u3]) ?_
        refine hg_eq1 (y := nI n) (hx.1) ?_
        refine hg_icmp_ge (tgt := 98) d_M_isTest_66 (by decide) (fun h2 => ?_) (fun h2 => ?_)
        · have hBn : ps_ix n L 4 (p + 1) = none := ps_ix_no (fun z => absurd z (fun z => nI_ge z (by omega) h2))
          refine hg_iconst (v := (-1)) d_M_isTest_98 (by decide) ?_
          refine hg_istore2 d_M_isTest_99 rfl ?_
          refine hg_iload2 d_M_isTest_100 ?_
          refine hg_if_ge (tgt := 106) d_M_isTest_101 (by decide) (fun h_5 => absurd h_5 (by decide)) (fun h_5 => ?_)
          refine hg_iconst (v := 0) d_M_isTest_104 (by decide) ?_
          refine hg_ireturn d_M_isTest_105 rfl (by decide) ?_
          have ht : ps_test n L p = (false, p + 1, fun _ => false) := by unfold ps_test; rw [hAs]; simp only []; rw [hBn]
          rw [ht]
          exact ⟨_, rfl, rfl, by rw [hg_u3s], by rw [hg_u3r, if_neg (by decide)], hm_p.rf.u21 (Or.inl (by omega)), fun j _ => hg_u3k (by omega), 0, by show p + 0 ≤ p + 1; omega, by rw [hg_u3r, if_neg (by decide)]; exact hw, fun z => absurd (show false = true from z) (by decide)⟩
        · have hlt2 : p + 1 < n := Nat.lt_of_not_le (fun z => h2 (nI_le z (by omega)))
          obtain ⟨c2, hc2, ec2⟩ := hx.2.2.2 (p + 1) hlt2
          refine hg_aload0 d_M_isTest_69 ?_
          refine hg_getR d_M_isTest_70 f_M_39 rfl rfl (hX.lt (n := 1) ⟨by decide, by decide⟩ rfl (by omega)) (hR.m (j := 15) (q := (22, 9)) rfl) ?_
          refine hg_aload0 d_M_isTest_73 ?_
          refine hg_getI d_M_isTest_74 f_M_139 rfl rfl (hX.lt (n := 1) ⟨by decide, by decide⟩ rfl (by omega)) ?_
          refine hg_eq1 (y := nI (p + 1)) (by simp [hg_u3]) ?_
          refine hg_iald_n (j := (p + 1)) d_M_isTest_77 rfl rfl (hX.lt (n := 28) ⟨by decide, by decide⟩ rfl (by omega)) (hX.jn (n := 100) (by decide) rfl (by omega)) ?_
          refine hg_eq1 (y := I 22 9 (p + 1)) (by simp [hg_u3]) ?_
          refine hg_eq1 (y := nI c2) ((hx.2.1 (p + 1) hlt2).trans ec2) ?_
          refine hg_if_le (tgt := 98) d_M_isTest_78 (by decide) (fun h2z => ?_) (fun h2z => ?_)
          · have hc0 : c2 = 0 := Nat.le_zero.mp (Nat.le_of_not_lt (fun z => nI_ge (a := 0) (b := c2) z (by omega) h2z))
            have hBn : ps_ix n L 4 (p + 1) = none := ps_ix_no (fun _ => by rw [ec2, hc0]; exact pm_z4)
            refine hg_iconst (v := (-1)) d_M_isTest_98 (by decide) ?_
            refine hg_istore2 d_M_isTest_99 rfl ?_
            refine hg_iload2 d_M_isTest_100 ?_
            refine hg_if_ge (tgt := 106) d_M_isTest_101 (by decide) (fun h_6 => absurd h_6 (by decide)) (fun h_6 => ?_)
            refine hg_iconst (v := 0) d_M_isTest_104 (by decide) ?_
            refine hg_ireturn d_M_isTest_105 rfl (by decide) ?_
            have ht : ps_test n L p = (false, p + 1, fun _ => false) := by unfold ps_test; rw [hAs]; simp only []; rw [hBn]
            rw [ht]
            exact ⟨_, rfl, rfl, by rw [hg_u3s], by rw [hg_u3r, if_neg (by decide)], hm_p.rf.u21 (Or.inl (by omega)), fun j _ => hg_u3k (by omega), 0, by show p + 0 ≤ p + 1; omega, by rw [hg_u3r, if_neg (by decide)]; exact hw, fun z => absurd (show false = true from z) (by decide)⟩
          · refine hg_ldcS (i := 4) (tx := "<=>") d_M_isTest_81 (by decide +kernel) ?_
            refine hg_aload0 d_M_isTest_83 ?_
            refine hg_getR d_M_isTest_84 f_M_39 rfl rfl (hX.lt (n := 1) ⟨by decide, by decide⟩ rfl (by omega)) (hR.m (j := 15) (q := (22, 9)) rfl) ?_
            refine hg_aload0 d_M_isTest_87 ?_
            refine hg_getI d_M_isTest_88 f_M_139 rfl rfl (hX.lt (n := 1) ⟨by decide, by decide⟩ rfl (by omega)) ?_
            refine hg_eq1 (y := nI (p + 1)) (by simp [hg_u3]) ?_
            refine hg_iald_n (j := (p + 1)) d_M_isTest_91 rfl rfl (hX.lt (n := 28) ⟨by decide, by decide⟩ rfl (by omega)) (hX.jn (n := 100) (by decide) rfl (by omega)) ?_
            refine hg_eq1 (y := I 22 9 (p + 1)) (by simp [hg_u3]) ?_
            refine hg_eq1 (y := nI c2) ((hx.2.1 (p + 1) hlt2).trans ec2) ?_
            refine hg_cQi d_M_isTest_92 l_M_169 (by decide) rfl rfl (Nat.le_of_ble_eq_true rfl) (m_JS_indexOf (t := 4) (c := c2) (by decide) hc2) rfl ?_
            rintro _ _ ⟨rfl, rfl⟩
            rcases hg_fc_or 4 (nI c2) (hg_sz 4) 0 with hz | ⟨b, hb, hz⟩
            · rw [hz]
              have hBn : ps_ix n L 4 (p + 1) = none := ps_ix_no (fun _ => by rw [ec2]; exact hz)
              refine hg_goto (tgt := 99) d_M_isTest_95 (by decide) ?_
              refine hg_istore2 d_M_isTest_99 rfl ?_
              refine hg_iload2 d_M_isTest_100 ?_
              refine hg_if_ge (tgt := 106) d_M_isTest_101 (by decide) (fun h_7 => absurd h_7 (by decide)) (fun h_7 => ?_)
              refine hg_iconst (v := 0) d_M_isTest_104 (by decide) ?_
              refine hg_ireturn d_M_isTest_105 rfl (by decide) ?_
              have ht : ps_test n L p = (false, p + 1, fun _ => false) := by unfold ps_test; rw [hAs]; simp only []; rw [hBn]
              rw [ht]
              exact ⟨_, rfl, rfl, by rw [hg_u3s], by rw [hg_u3r, if_neg (by decide)], hm_p.rf.u21 (Or.inl (by omega)), fun j _ => hg_u3k (by omega), 0, by show p + 0 ≤ p + 1; omega, by rw [hg_u3r, if_neg (by decide)]; exact hw, fun z => absurd (show false = true from z) (by decide)⟩
            · rw [hz]
              have hbk : b < hg_sz 4 := by omega
              have hBs : ps_ix n L 4 (p + 1) = some b := by unfold ps_ix; rw [if_pos (by omega), ec2, hz]; exact hs_ix_s hbk (by decide)
              refine hg_goto (tgt := 99) d_M_isTest_95 (by decide) ?_
              refine hg_istore2 d_M_isTest_99 rfl ?_
              refine hg_iload2 d_M_isTest_100 ?_
              refine hg_if_ge (tgt := 106) d_M_isTest_101 (by decide) (fun h_8 => ?_) (fun h_8 => absurd (nI_le (a := 0) (b := b) (Nat.zero_le _) (by have := hg_sz_le 4 (by decide); omega)) h_8)
              refine hg_aload0 d_M_isTest_106 ?_
              refine hg_dup d_M_isTest_107 rfl ?_
              refine hg_getI d_M_isTest_108 f_M_139 rfl rfl (hX.lt (n := 1) ⟨by decide, by decide⟩ rfl (by omega)) ?_
              refine hg_eq1 (y := nI (p + 1)) (by simp [hg_u3]) ?_
              refine hg_iconst (v := 1) d_M_isTest_111 (by decide) ?_
              refine hg_iadd d_M_isTest_112 ?_
              refine hg_eq1 (y := nI ((p + 1) + 1)) (nI_add _ _) ?_
              refine hg_putI d_M_isTest_113 f_M_139 rfl rfl (Or.inl rfl) rfl rfl (hX.lt (n := 1) ⟨by decide, by decide⟩ rfl (by omega)) ?_
              refine hg_aload0 d_M_isTest_116 ?_
              have hq1 : hm_q (hg_u3 (hg_u3 I 21 0 16 (nI (p + 1))) 21 0 16 (nI ((p + 1) + 1))) I := (hm_q.rf.u (by omega)).u (by omega)
              refine hg_cVi d_M_isTest_117 l_M_174 rfl rfl (hX.lt (n := 1) ⟨by decide, by decide⟩ rfl (by omega)) rfl (Nat.le_of_ble_eq_true rfl) (m_M_isNumber (n := n) (L := L) (p := p + 2) hX hR (hx.q hq1) (by simp [hg_u3]) (by omega)) rfl ?_
              rintro _ _ ⟨I2, rfl, rfl, hat, hvl, hq2⟩
              have hle := ps_nm_le (L := L) (p := p + 2) (show p + 2 ≤ n by omega)
              have hq3 := hq2.tr hq1
              by_cases hu : (ps_nm n L (p + 2)).1 = true
              · refine hg_eq1 (y := 1) (if_pos hu) ?_
                refine hg_if_eq (tgt := 151) d_M_isTest_120 (by decide) (fun h_9 => absurd h_9 (by decide)) (fun h_9 => ?_)
                refine hg_aload0 d_M_isTest_123 ?_
                refine hg_iconst (v := 3) d_M_isTest_124 (by decide) ?_
                refine hg_sipush (v := 300) d_M_isTest_125 (by decide) ?_
                refine hg_iload1 d_M_isTest_128 ?_
                refine hg_imul d_M_isTest_129 ?_
                refine hg_eq1 (y := nI (300 * a)) (pk_mul _ _) ?_
                refine hg_iadd d_M_isTest_130 ?_
                refine hg_eq1 (y := nI (3 + (300 * a))) (nI_add _ _) ?_
                refine hg_bipush (v := 100) d_M_isTest_131 (by decide) ?_
                refine hg_iload2 d_M_isTest_133 ?_
                refine hg_imul d_M_isTest_134 ?_
                refine hg_eq1 (y := nI (100 * b)) (pk_mul _ _) ?_
                refine hg_iadd d_M_isTest_135 ?_
                refine hg_eq1 (y := nI ((3 + (300 * a)) + (100 * b))) (nI_add _ _) ?_
                refine hg_aload0 d_M_isTest_136 ?_
                refine hg_getI d_M_isTest_137 f_M_142 rfl rfl (hX.lt (n := 1) ⟨by decide, by decide⟩ rfl (by omega)) ?_
                refine hg_eq1 (y := nI (ps_nm n L (p + 2)).2.2) (hvl) ?_
                refine hg_iadd d_M_isTest_140 ?_
                refine hg_eq1 (y := nI (((3 + (300 * a)) + (100 * b)) + (ps_nm n L (p + 2)).2.2)) (nI_add _ _) ?_
                refine hg_cVi d_M_isTest_141 l_M_177 rfl rfl (hX.lt (n := 1) ⟨by decide, by decide⟩ rfl (by omega)) rfl (Nat.le_of_ble_eq_true rfl) (m_M_codes (w := w) hX hR ((hq3.2 28 (by omega)).trans hw) (by omega)) rfl ?_
                rintro _ _ ⟨rfl, rfl⟩
                refine hg_if_eq (tgt := 151) d_M_isTest_144 (by decide) (fun h_10 => absurd h_10 (by decide)) (fun h_10 => ?_)
                refine hg_iconst (v := 1) d_M_isTest_147 (by decide) ?_
                refine hg_goto (tgt := 152) d_M_isTest_148 (by decide) ?_
                refine hg_ireturn d_M_isTest_152 rfl (by decide) ?_
                have hv100 := pm_nm_v (p := p + 2) hx
                have hA6 : a < 6 := hak
                have hB3 : b < 3 := hbk
                have hn1 := hle.2.2 hu
                have ht : ps_test n L p = (true, (ps_nm n L (p + 2)).2.1, fun f => ps_cmp b (f a) (nI (ps_nm n L (p + 2)).2.2)) := by unfold ps_test; rw [hAs]; simp only []; rw [hBs]; simp only []; rw [hu]
                rw [ht]
                refine ⟨_, rfl, rfl, ?_, ?_, ?_, fun j hj => ?_, 1, by show p + 1 ≤ (ps_nm n L (p + 2)).2.1; omega, ?_, fun _ => ps_me.tst hv100 hA6 hB3 ?_⟩
                · rw [hg_u3k (by omega), hg_u3r, if_neg (by decide)]; exact hat
                · rw [hg_u3k (by omega), hg_u3r, if_neg (by decide)]; exact hq3.2 19 (by omega)
                · exact (hq3.p.u21 (Or.inr rfl)).u22
                · rw [hg_u3r, if_neg (by omega), hg_u3k (by omega), hq3.1 22 (by decide)]
                · rw [hg_u3k (by omega), hg_u3s]
                · rw [hg_u3s]
              · refine hg_eq1 (y := 0) (if_neg hu) ?_
                refine hg_if_eq (tgt := 151) d_M_isTest_120 (by decide) (fun h_11 => ?_) (fun h_11 => absurd (by decide) h_11)
                refine hg_iconst (v := 0) d_M_isTest_151 (by decide) ?_
                refine hg_ireturn d_M_isTest_152 rfl (by decide) ?_
                have ht : ps_test n L p = ((ps_nm n L (p + 2)).1, (ps_nm n L (p + 2)).2.1, fun f => ps_cmp b (f a) (nI (ps_nm n L (p + 2)).2.2)) := by unfold ps_test; rw [hAs]; simp only []; rw [hBs]
                rw [ht]
                exact ⟨_, rfl, (if_neg hu).symm, hat, hq3.2 19 (by omega), hq3.p, fun j _ => by rw [hq3.1 22 (by decide)], 0, by show p + 0 ≤ (ps_nm n L (p + 2)).2.1; omega, (hq3.2 28 (by omega)).trans hw, fun z => absurd z hu⟩

end M47
