/-! Reader: what reads a part -/
section M17
variable {l : Launch} {E : hg_E} {d T : Nat}
variable {I : Nat → Nat → Nat → Int32} {Lg : Nat → Nat → Nat → Int64} {Rf : Nat → Nat → Nat → Option (Nat × Nat)} {X : Nat × (Nat → Nat) × (Nat → Nat → Nat)}
variable {n : Nat} {L : Nat → Int32} {I1 I2 I' : Nat → Nat → Nat → Int32}
def ps_X (n : Nat) (L : Nat → Int32) (I : Nat → Nat → Nat → Int32) : Prop := I 10 0 1 = nI n ∧ (∀ j, j < n → I 11 0 j = L j) ∧ n ≤ 100 ∧ ∀ j, j < n → ∃ c, c < 128 ∧ L j = nI c
/-- only the Reader's own changed -/
def hg_fd (I' I : Nat → Nat → Nat → Int32) : Prop := (∀ k, k ≠ 10 → k ≠ 12 → I' k = I k) ∧ I' 10 0 1 = I 10 0 1
theorem hg_fd.rf : hg_fd I I := ⟨fun _ _ _ => rfl, rfl⟩
theorem hg_fd.tr (h : hg_fd I' I1) (h1 : hg_fd I1 I) : hg_fd I' I := ⟨fun k a b => (h.1 k a b).trans (h1.1 k a b), h.2.trans h1.2⟩
theorem hg_fd.u {j : Nat} {x : Int32} (h : hg_fd I' I) (hj : j ≠ 1) : hg_fd (hg_u3 I' 10 0 j x) I := ⟨fun k a b => by rw [← h.1 k a b]; funext p q; exact hg_u3k (fun z => a z.1), by rw [← h.2]; simp [hg_u3, Ne.symm hj]⟩
theorem hg_fd.v {j : Nat} {x : Int32} (h : hg_fd I' I) : hg_fd (hg_u3 I' 12 0 j x) I := ⟨fun k a b => by rw [← h.1 k a b]; funext p q; exact hg_u3k (fun z => b z.1), by rw [← h.2]; simp [hg_u3]⟩
theorem ps_X.fd (h : ps_X n L I) (e : hg_fd I' I) : ps_X n L I' := by
  obtain ⟨h1, h2, h3⟩ := h
  exact ⟨e.2.trans h1, fun j hj => by rw [e.1 11 (by decide) (by decide)]; exact h2 j hj, h3⟩
def ps_P (b w p : Nat) (q : ps_R) (I I' : Nat → Nat → Nat → Int32) (v : Int32) : Prop := v = (if q.1 = true then 1 else 0) ∧ I' 10 0 2 = nI q.2.1 ∧ hg_fd I' I ∧ I' 10 0 6 = I 10 0 6 ∧ (∀ j, j < w → I' 12 0 j = I 12 0 j) ∧ ∃ w', w ≤ w' ∧ w' ≤ 100 ∧ I' 10 0 4 = nI w' ∧ (q.1 = true → w' - w ≤ q.2.1 - p ∧ ps_ev (I' 12 0) w (w' - w) b q.2.2)

theorem m_R_sign {p : Nat} {c : Int32} (hX : hg_XS T X) (hR : hg_SR T Rf) (hx : ps_X n L I) (hp : I 10 0 2 = nI p) (hpn : p ≤ n) : hg_MC l E (d + 1) Y_R_sign 0 0 [.ref (hg_ad E 10 0), .int c] (I, Lg, Rf, X) (hg_i (fun v M' => (ps_sg n L p c = true ∧ v = 1 ∧ M' = (hg_u3 I 10 0 2 (nI (p + 1)), Lg, Rf, X)) ∨ (ps_sg n L p c = false ∧ v = 0 ∧ M' = (I, Lg, Rf, X)))) := by
  have hn100 := hx.2.2.1
  refine hg_mc k_R_sign (Nat.le_of_ble_eq_true rfl) ?_
  show hg_WP l E _ Y_R_sign 0 0 0 [some (.ref (hg_ad E 10 0)), some (.int c)] [] (I, Lg, Rf, X) _
  refine hg_aload0 d_R_sign_0 ?_
  refine hg_getI d_R_sign_1 f_R_23 rfl rfl (hX.lt (n := 1) ⟨by decide, by decide⟩ rfl (by omega)) ?_
  refine hg_eq1 (y := nI p) (hp) ?_
  refine hg_aload0 d_R_sign_4 ?_
  refine hg_getI d_R_sign_5 f_R_19 rfl rfl (hX.lt (n := 1) ⟨by decide, by decide⟩ rfl (by omega)) ?_
  refine hg_eq1 (y := nI n) (hx.1) ?_
  refine hg_icmp_ge (tgt := 24) d_R_sign_8 (by decide) (fun h1 => ?_) (fun h1 => ?_)
  · refine hg_iconst (v := 0) d_R_sign_24 (by decide) ?_
    refine hg_ireturn d_R_sign_25 rfl (by decide) ?_
    exact Or.inr ⟨ps_sg_f (fun z => by first | exact h2 z.2 | (rw [nI_leI (by omega) (by omega)] at h1; omega)), rfl, rfl⟩
  · have hlt : p < n := Nat.lt_of_not_le (fun z => h1 ((nI_leI (by omega) (by omega)).mpr z))
    refine hg_aload0 d_R_sign_11 ?_
    refine hg_getR d_R_sign_12 f_R_11 rfl rfl (hX.lt (n := 1) ⟨by decide, by decide⟩ rfl (by omega)) hR.r0 ?_
    refine hg_aload0 d_R_sign_15 ?_
    refine hg_getI d_R_sign_16 f_R_23 rfl rfl (hX.lt (n := 1) ⟨by decide, by decide⟩ rfl (by omega)) ?_
    refine hg_eq1 (y := nI p) (hp) ?_
    refine hg_bald_n (j := p) d_R_sign_19 rfl rfl (hX.lt (n := 1) ⟨by decide, by decide⟩ rfl (by omega)) (hX.jn (n := 100) (by decide) rfl (by omega)) ?_
    refine hg_eq1 (y := L p) (hx.2.1 p hlt) ?_
    refine hg_iload1 d_R_sign_20 ?_
    refine hg_icmp_eq (tgt := 26) d_R_sign_21 (by decide) (fun h2 => ?_) (fun h2 => ?_)
    · refine hg_aload0 d_R_sign_26 ?_
      refine hg_dup d_R_sign_27 rfl ?_
      refine hg_getI d_R_sign_28 f_R_23 rfl rfl (hX.lt (n := 1) ⟨by decide, by decide⟩ rfl (by omega)) ?_
      refine hg_eq1 (y := nI p) (hp) ?_
      refine hg_iconst (v := 1) d_R_sign_31 (by decide) ?_
      refine hg_iadd d_R_sign_32 ?_
      refine hg_eq1 (y := nI (p + 1)) (nI_add _ _) ?_
      refine hg_putI d_R_sign_33 f_R_23 rfl rfl (Or.inl rfl) rfl rfl (hX.lt (n := 1) ⟨by decide, by decide⟩ rfl (by omega)) ?_
      refine hg_iconst (v := 1) d_R_sign_36 (by decide) ?_
      refine hg_ireturn d_R_sign_37 rfl (by decide) ?_
      exact Or.inl ⟨decide_eq_true ⟨hlt, h2⟩, rfl, rfl⟩
    · refine hg_iconst (v := 0) d_R_sign_24 (by decide) ?_
      refine hg_ireturn d_R_sign_25 rfl (by decide) ?_
      exact Or.inr ⟨ps_sg_f (fun z => by first | exact h2 z.2 | (rw [nI_leI (by omega) (by omega)] at h1; omega)), rfl, rfl⟩

theorem m_R_number {p : Nat} (hX : hg_XS T X) (hR : hg_SR T Rf) (hx : ps_X n L I) (hp : I 10 0 2 = nI p) (hpn : p ≤ n) : hg_MC l E (d + 1) Y_R_number 0 0 [.ref (hg_ad E 10 0)] (I, Lg, Rf, X) (hg_i (fun v M' => ∃ I' : Nat → Nat → Nat → Int32, v = (if (ps_nm n L p).1 = true then 1 else 0) ∧ M' = (I', Lg, Rf, X) ∧ I' 10 0 2 = nI (ps_nm n L p).2.1 ∧ I' 10 0 5 = nI (ps_nm n L p).2.2 ∧ (∀ k, k ≠ 10 → I' k = I k) ∧ ∀ j, j ≠ 2 → j ≠ 5 → I' 10 0 j = I 10 0 j)) := by
  have hn100 := hx.2.2.1
  refine hg_mc k_R_number (Nat.le_of_ble_eq_true rfl) ?_
  show hg_WP l E _ Y_R_number 0 0 0 [some (.ref (hg_ad E 10 0)), none, none] [] (I, Lg, Rf, X) _
  refine hg_aload0 d_R_number_0 ?_
  refine hg_getI d_R_number_1 f_R_23 rfl rfl (hX.lt (n := 1) ⟨by decide, by decide⟩ rfl (by omega)) ?_
  refine hg_eq1 (y := nI p) (hp) ?_
  refine hg_istore1 d_R_number_4 rfl ?_
  refine hg_aload0 d_R_number_5 ?_
  refine hg_iconst (v := 0) d_R_number_6 (by decide) ?_
  refine hg_putI d_R_number_7 f_R_54 rfl rfl (Or.inl rfl) rfl rfl (hX.lt (n := 1) ⟨by decide, by decide⟩ rfl (by omega)) ?_
  refine hg_iconst (v := 0) d_R_number_10 (by decide) ?_
  refine hg_istore2 d_R_number_11 rfl ?_
  refine hg_iload2 d_R_number_12 ?_
  refine hg_iconst (v := 2) d_R_number_13 (by decide) ?_
  refine hg_icmp_ge (tgt := 96) d_R_number_14 (by decide) (fun h_1 => absurd h_1 (by decide)) (fun h_1 => ?_)
  refine hg_aload0 d_R_number_17 ?_
  refine hg_getI d_R_number_18 f_R_23 rfl rfl (hX.lt (n := 1) ⟨by decide, by decide⟩ rfl (by omega)) ?_
  refine hg_eq1 (y := I 10 0 2) (by simp [hg_u3]) ?_
  refine hg_eq1 (y := nI p) (hp) ?_
  refine hg_aload0 d_R_number_21 ?_
  refine hg_getI d_R_number_22 f_R_19 rfl rfl (hX.lt (n := 1) ⟨by decide, by decide⟩ rfl (by omega)) ?_
  refine hg_eq1 (y := I 10 0 1) (by simp [hg_u3]) ?_
  refine hg_eq1 (y := nI n) (hx.1) ?_
  refine hg_icmp_ge (tgt := 96) d_R_number_25 (by decide) (fun h25_0 => ?_) (fun h25_0 => ?_)
  · refine hg_aload0 d_R_number_96 ?_
    refine hg_getI d_R_number_97 f_R_23 rfl rfl (hX.lt (n := 1) ⟨by decide, by decide⟩ rfl (by omega)) ?_
    refine hg_eq1 (y := I 10 0 2) (by simp [hg_u3]) ?_
    refine hg_eq1 (y := nI p) (hp) ?_
    refine hg_iload1 d_R_number_100 ?_
    refine hg_icmp_le (tgt := 108) d_R_number_101 (by decide) (fun hle => ?_) (fun hle => ?_)
    · refine hg_iconst (v := 0) d_R_number_108 (by decide) ?_
      refine hg_ireturn d_R_number_109 rfl (by decide) ?_
      have hd0 : ps_dg n L p = false := decide_eq_false (fun z => by first | (have := h53_0; rw [← ec0] at this; exact Int32.lt_irrefl (Int32.lt_of_lt_of_le this z.2.2)) | (have := h39_0; rw [← ec0] at this; exact Int32.lt_irrefl (Int32.lt_of_lt_of_le this z.2.1)) | (have := z.1; rw [nI_leI (by omega) (by omega)] at h25_0; omega))
      have hz : ps_nm n L p = (false, p, 0) := by unfold ps_nm; rw [if_neg (by rw [hd0]; decide)]
      rw [hz]; exact ⟨_, rfl, rfl, by simp [hg_u3, hp], by simp [hg_u3, nI], fun k hk => by funext a b; simp [hg_u3, hk], fun j h2 h5 => by simp [hg_u3, h2, h5]⟩
    · refine hg_iconst (v := 1) d_R_number_104 (by decide) ?_
      refine hg_goto (tgt := 109) d_R_number_105 (by decide) ?_
      refine hg_ireturn d_R_number_109 rfl (by decide) ?_
      exact absurd (Int32.le_refl _) hle
  · have hlt0 : p < n := Nat.lt_of_not_le (fun z => h25_0 ((nI_leI (by omega) (by omega)).mpr z))
    obtain ⟨c0, hc0, ec0⟩ := hx.2.2.2 p hlt0
    refine hg_aload0 d_R_number_28 ?_
    refine hg_getR d_R_number_29 f_R_11 rfl rfl (hX.lt (n := 1) ⟨by decide, by decide⟩ rfl (by omega)) hR.r0 ?_
    refine hg_aload0 d_R_number_32 ?_
    refine hg_getI d_R_number_33 f_R_23 rfl rfl (hX.lt (n := 1) ⟨by decide, by decide⟩ rfl (by omega)) ?_
    refine hg_eq1 (y := I 10 0 2) (by simp [hg_u3]) ?_
    refine hg_eq1 (y := nI p) (hp) ?_
    refine hg_bald_n (j := p) d_R_number_36 rfl rfl (hX.lt (n := 1) ⟨by decide, by decide⟩ rfl (by omega)) (hX.jn (n := 100) (by decide) rfl (by omega)) ?_
    refine hg_eq1 (y := I 11 0 p) (by simp [hg_u3]) ?_
    refine hg_eq1 (y := nI c0) ((hx.2.1 p hlt0).trans ec0) ?_
    refine hg_bipush (v := 48) d_R_number_37 (by decide) ?_
    refine hg_icmp_lt (tgt := 96) d_R_number_39 (by decide) (fun h39_0 => ?_) (fun h39_0 => ?_)
    · refine hg_aload0 d_R_number_96 ?_
      refine hg_getI d_R_number_97 f_R_23 rfl rfl (hX.lt (n := 1) ⟨by decide, by decide⟩ rfl (by omega)) ?_
      refine hg_eq1 (y := I 10 0 2) (by simp [hg_u3]) ?_
      refine hg_eq1 (y := nI p) (hp) ?_
      refine hg_iload1 d_R_number_100 ?_
      refine hg_icmp_le (tgt := 108) d_R_number_101 (by decide) (fun hle => ?_) (fun hle => ?_)
      · refine hg_iconst (v := 0) d_R_number_108 (by decide) ?_
        refine hg_ireturn d_R_number_109 rfl (by decide) ?_
        have hd0 : ps_dg n L p = false := decide_eq_false (fun z => by first | (have := h53_0; rw [← ec0] at this; exact Int32.lt_irrefl (Int32.lt_of_lt_of_le this z.2.2)) | (have := h39_0; rw [← ec0] at this; exact Int32.lt_irrefl (Int32.lt_of_lt_of_le this z.2.1)) | (have := z.1; rw [nI_leI (by omega) (by omega)] at h25_0; omega))
        have hz : ps_nm n L p = (false, p, 0) := by unfold ps_nm; rw [if_neg (by rw [hd0]; decide)]
        rw [hz]; exact ⟨_, rfl, rfl, by simp [hg_u3, hp], by simp [hg_u3, nI], fun k hk => by funext a b; simp [hg_u3, hk], fun j h2 h5 => by simp [hg_u3, h2, h5]⟩
      · refine hg_iconst (v := 1) d_R_number_104 (by decide) ?_
        refine hg_goto (tgt := 109) d_R_number_105 (by decide) ?_
        refine hg_ireturn d_R_number_109 rfl (by decide) ?_
        exact absurd (Int32.le_refl _) hle
    · refine hg_aload0 d_R_number_42 ?_
      refine hg_getR d_R_number_43 f_R_11 rfl rfl (hX.lt (n := 1) ⟨by decide, by decide⟩ rfl (by omega)) hR.r0 ?_
      refine hg_aload0 d_R_number_46 ?_
      refine hg_getI d_R_number_47 f_R_23 rfl rfl (hX.lt (n := 1) ⟨by decide, by decide⟩ rfl (by omega)) ?_
      refine hg_eq1 (y := I 10 0 2) (by simp [hg_u3]) ?_
      refine hg_eq1 (y := nI p) (hp) ?_
      refine hg_bald_n (j := p) d_R_number_50 rfl rfl (hX.lt (n := 1) ⟨by decide, by decide⟩ rfl (by omega)) (hX.jn (n := 100) (by decide) rfl (by omega)) ?_
      refine hg_eq1 (y := I 11 0 p) (by simp [hg_u3]) ?_
      refine hg_eq1 (y := nI c0) ((hx.2.1 p hlt0).trans ec0) ?_
      refine hg_bipush (v := 57) d_R_number_51 (by decide) ?_
      refine hg_icmp_gt (tgt := 96) d_R_number_53 (by decide) (fun h53_0 => ?_) (fun h53_0 => ?_)
      · refine hg_aload0 d_R_number_96 ?_
        refine hg_getI d_R_number_97 f_R_23 rfl rfl (hX.lt (n := 1) ⟨by decide, by decide⟩ rfl (by omega)) ?_
        refine hg_eq1 (y := I 10 0 2) (by simp [hg_u3]) ?_
        refine hg_eq1 (y := nI p) (hp) ?_
        refine hg_iload1 d_R_number_100 ?_
        refine hg_icmp_le (tgt := 108) d_R_number_101 (by decide) (fun hle => ?_) (fun hle => ?_)
        · refine hg_iconst (v := 0) d_R_number_108 (by decide) ?_
          refine hg_ireturn d_R_number_109 rfl (by decide) ?_
          have hd0 : ps_dg n L p = false := decide_eq_false (fun z => by first | (have := h53_0; rw [← ec0] at this; exact Int32.lt_irrefl (Int32.lt_of_lt_of_le this z.2.2)) | (have := h39_0; rw [← ec0] at this; exact Int32.lt_irrefl (Int32.lt_of_lt_of_le this z.2.1)) | (have := z.1; rw [nI_leI (by omega) (by omega)] at h25_0; omega))
          have hz : ps_nm n L p = (false, p, 0) := by unfold ps_nm; rw [if_neg (by rw [hd0]; decide)]
          rw [hz]; exact ⟨_, rfl, rfl, by simp [hg_u3, hp], by simp [hg_u3, nI], fun k hk => by funext a b; simp [hg_u3, hk], fun j h2 h5 => by simp [hg_u3, h2, h5]⟩
        · refine hg_iconst (v := 1) d_R_number_104 (by decide) ?_
          refine hg_goto (tgt := 109) d_R_number_105 (by decide) ?_
          refine hg_ireturn d_R_number_109 rfl (by decide) ?_
          exact absurd (Int32.le_refl _) hle
      · have h48_0 : 48 ≤ c0 := Nat.le_of_not_lt (fun z => h39_0 ((nI_ltI (b := 48) (by omega) (by decide)).mpr z))
        have h57_0 : c0 ≤ 57 := Nat.le_of_not_lt (fun z => h53_0 ((nI_ltI (a := 57) (by decide) (by omega)).mpr z))
        have hd0 : ps_dg n L p = true := decide_eq_true ⟨hlt0, by rw [ec0]; exact (nI_leI (a := 48) (by decide) (by omega)).mpr h48_0, by rw [ec0]; exact (nI_leI (b := 57) (by omega) (by decide)).mpr h57_0⟩
        have hv0 : ps_d L p = c0 - 48 := by unfold ps_d; rw [ec0, nI_clamp (by omega)]
        refine hg_aload0 d_R_number_56 ?_
        refine hg_bipush (v := 10) d_R_number_57 (by decide) ?_
        refine hg_aload0 d_R_number_59 ?_
        refine hg_getI d_R_number_60 f_R_54 rfl rfl (hX.lt (n := 1) ⟨by decide, by decide⟩ rfl (by omega)) ?_
        refine hg_eq1 (y := 0) (by simp [hg_u3]) ?_
        refine hg_imul d_R_number_63 ?_
        refine hg_eq1 (y := 0) (by decide) ?_
        refine hg_aload0 d_R_number_64 ?_
        refine hg_getR d_R_number_65 f_R_11 rfl rfl (hX.lt (n := 1) ⟨by decide, by decide⟩ rfl (by omega)) hR.r0 ?_
        refine hg_aload0 d_R_number_68 ?_
        refine hg_getI d_R_number_69 f_R_23 rfl rfl (hX.lt (n := 1) ⟨by decide, by decide⟩ rfl (by omega)) ?_
        refine hg_eq1 (y := I 10 0 2) (by simp [hg_u3]) ?_
        refine hg_eq1 (y := nI p) (hp) ?_
        refine hg_bald_n (j := p) d_R_number_72 rfl rfl (hX.lt (n := 1) ⟨by decide, by decide⟩ rfl (by omega)) (hX.jn (n := 100) (by decide) rfl (by omega)) ?_
        refine hg_eq1 (y := I 11 0 p) (by simp [hg_u3]) ?_
        refine hg_eq1 (y := nI c0) ((hx.2.1 p hlt0).trans ec0) ?_
        refine hg_iadd d_R_number_73 ?_
        refine hg_eq1 (y := nI (0 + c0)) (nI_add _ _) ?_
        refine hg_bipush (v := 48) d_R_number_74 (by decide) ?_
        refine hg_isub d_R_number_76 ?_
        refine hg_eq1 (y := nI (c0 - 48)) (by rw [show 0 + c0 = c0 by omega]; exact pk_sub (b := 48) h48_0) ?_
        refine hg_putI d_R_number_77 f_R_54 rfl rfl (Or.inl rfl) rfl rfl (hX.lt (n := 1) ⟨by decide, by decide⟩ rfl (by omega)) ?_
        refine hg_aload0 d_R_number_80 ?_
        refine hg_dup d_R_number_81 rfl ?_
        refine hg_getI d_R_number_82 f_R_23 rfl rfl (hX.lt (n := 1) ⟨by decide, by decide⟩ rfl (by omega)) ?_
        refine hg_eq1 (y := I 10 0 2) (by simp [hg_u3]) ?_
        refine hg_eq1 (y := nI p) (hp) ?_
        refine hg_iconst (v := 1) d_R_number_85 (by decide) ?_
        refine hg_iadd d_R_number_86 ?_
        refine hg_eq1 (y := nI (p + 1)) (nI_add _ _) ?_
        refine hg_putI d_R_number_87 f_R_23 rfl rfl (Or.inl rfl) rfl rfl (hX.lt (n := 1) ⟨by decide, by decide⟩ rfl (by omega)) ?_
        refine hg_iinc2 (v := 1) d_R_number_90 rfl (by decide) ?_
        refine hg_goto (tgt := 12) d_R_number_93 (by decide) ?_
        refine hg_iload2 d_R_number_12 ?_
        refine hg_iconst (v := 2) d_R_number_13 (by decide) ?_
        refine hg_icmp_ge (tgt := 96) d_R_number_14 (by decide) (fun h_2 => absurd h_2 (by decide)) (fun h_2 => ?_)
        refine hg_aload0 d_R_number_17 ?_
        refine hg_getI d_R_number_18 f_R_23 rfl rfl (hX.lt (n := 1) ⟨by decide, by decide⟩ rfl (by omega)) ?_
        refine hg_eq1 (y := nI (p + 1)) (by simp [hg_u3]) ?_
        refine hg_aload0 d_R_number_21 ?_
        refine hg_getI d_R_number_22 f_R_19 rfl rfl (hX.lt (n := 1) ⟨by decide, by decide⟩ rfl (by omega)) ?_
        refine hg_eq1 (y := I 10 0 1) (by simp [hg_u3]) ?_
        refine hg_eq1 (y := nI n) (hx.1) ?_
        refine hg_icmp_ge (tgt := 96) d_R_number_25 (by decide) (fun h25_1 => ?_) (fun h25_1 => ?_)
        · refine hg_aload0 d_R_number_96 ?_
          refine hg_getI d_R_number_97 f_R_23 rfl rfl (hX.lt (n := 1) ⟨by decide, by decide⟩ rfl (by omega)) ?_
          refine hg_eq1 (y := nI (p + 1)) (by simp [hg_u3]) ?_
          refine hg_iload1 d_R_number_100 ?_
          refine hg_icmp_le (tgt := 108) d_R_number_101 (by decide) (fun hle => ?_) (fun hle => ?_)
          · refine hg_iconst (v := 0) d_R_number_108 (by decide) ?_
            refine hg_ireturn d_R_number_109 rfl (by decide) ?_
            exact absurd hle (by rw [nI_leI (by omega) (by omega)]; omega)
          · refine hg_iconst (v := 1) d_R_number_104 (by decide) ?_
            refine hg_goto (tgt := 109) d_R_number_105 (by decide) ?_
            refine hg_ireturn d_R_number_109 rfl (by decide) ?_
            have hd1 : ps_dg n L (p + 1) = false := decide_eq_false (fun z => by first | (have := h53_1; rw [← ec1] at this; exact Int32.lt_irrefl (Int32.lt_of_lt_of_le this z.2.2)) | (have := h39_1; rw [← ec1] at this; exact Int32.lt_irrefl (Int32.lt_of_lt_of_le this z.2.1)) | (have := z.1; rw [nI_leI (by omega) (by omega)] at h25_1; omega))
            have hz : ps_nm n L p = (true, p + 1, c0 - 48) := by unfold ps_nm; rw [if_pos hd0, if_neg (by rw [hd1]; decide), hv0]
            rw [hz]; exact ⟨_, rfl, rfl, by simp [hg_u3, hp], by simp [hg_u3, nI], fun k hk => by funext a b; simp [hg_u3, hk], fun j h2 h5 => by simp [hg_u3, h2, h5]⟩
        · have hlt1 : (p + 1) < n := Nat.lt_of_not_le (fun z => h25_1 ((nI_leI (by omega) (by omega)).mpr z))
          obtain ⟨c1, hc1, ec1⟩ := hx.2.2.2 (p + 1) hlt1
          refine hg_aload0 d_R_number_28 ?_
          refine hg_getR d_R_number_29 f_R_11 rfl rfl (hX.lt (n := 1) ⟨by decide, by decide⟩ rfl (by omega)) hR.r0 ?_
          refine hg_aload0 d_R_number_32 ?_
          refine hg_getI d_R_number_33 f_R_23 rfl rfl (hX.lt (n := 1) ⟨by decide, by decide⟩ rfl (by omega)) ?_
          refine hg_eq1 (y := nI (p + 1)) (by simp [hg_u3]) ?_
          refine hg_bald_n (j := (p + 1)) d_R_number_36 rfl rfl (hX.lt (n := 1) ⟨by decide, by decide⟩ rfl (by omega)) (hX.jn (n := 100) (by decide) rfl (by omega)) ?_
          refine hg_eq1 (y := I 11 0 (p + 1)) (by simp [hg_u3]) ?_
          refine hg_eq1 (y := nI c1) ((hx.2.1 (p + 1) hlt1).trans ec1) ?_
          refine hg_bipush (v := 48) d_R_number_37 (by decide) ?_
          refine hg_icmp_lt (tgt := 96) d_R_number_39 (by decide) (fun h39_1 => ?_) (fun h39_1 => ?_)
          · refine hg_aload0 d_R_number_96 ?_
            refine hg_getI d_R_number_97 f_R_23 rfl rfl (hX.lt (n := 1) ⟨by decide, by decide⟩ rfl (by omega)) ?_
            refine hg_eq1 (y := nI (p + 1)) (by simp [hg_u3]) ?_
            refine hg_iload1 d_R_number_100 ?_
            refine hg_icmp_le (tgt := 108) d_R_number_101 (by decide) (fun hle => ?_) (fun hle => ?_)
            · refine hg_iconst (v := 0) d_R_number_108 (by decide) ?_
              refine hg_ireturn d_R_number_109 rfl (by decide) ?_
              exact absurd hle (by rw [nI_leI (by omega) (by omega)]; omega)
            · refine hg_iconst (v := 1) d_R_number_104 (by decide) ?_
              refine hg_goto (tgt := 109) d_R_number_105 (by decide) ?_
              refine hg_ireturn d_R_number_109 rfl (by decide) ?_
              have hd1 : ps_dg n L (p + 1) = false := decide_eq_false (fun z => by first | (have := h53_1; rw [← ec1] at this; exact Int32.lt_irrefl (Int32.lt_of_lt_of_le this z.2.2)) | (have := h39_1; rw [← ec1] at this; exact Int32.lt_irrefl (Int32.lt_of_lt_of_le this z.2.1)) | (have := z.1; rw [nI_leI (by omega) (by omega)] at h25_1; omega))
              have hz : ps_nm n L p = (true, p + 1, c0 - 48) := by unfold ps_nm; rw [if_pos hd0, if_neg (by rw [hd1]; decide), hv0]
              rw [hz]; exact ⟨_, rfl, rfl, by simp [hg_u3, hp], by simp [hg_u3, nI], fun k hk => by funext a b; simp [hg_u3, hk], fun j h2 h5 => by simp [hg_u3, h2, h5]⟩
          · refine hg_aload0 d_R_number_42 ?_
            refine hg_getR d_R_number_43 f_R_11 rfl rfl (hX.lt (n := 1) ⟨by decide, by decide⟩ rfl (by omega)) hR.r0 ?_
            refine hg_aload0 d_R_number_46 ?_
            refine hg_getI d_R_number_47 f_R_23 rfl rfl (hX.lt (n := 1) ⟨by decide, by decide⟩ rfl (by omega)) ?_
            refine hg_eq1 (y := nI (p + 1)) (by simp [hg_u3]) ?_
            refine hg_bald_n (j := (p + 1)) d_R_number_50 rfl rfl (hX.lt (n := 1) ⟨by decide, by decide⟩ rfl (by omega)) (hX.jn (n := 100) (by decide) rfl (by omega)) ?_
            refine hg_eq1 (y := I 11 0 (p + 1)) (by simp [hg_u3]) ?_
            refine hg_eq1 (y := nI c1) ((hx.2.1 (p + 1) hlt1).trans ec1) ?_
            refine hg_bipush (v := 57) d_R_number_51 (by decide) ?_
            refine hg_icmp_gt (tgt := 96) d_R_number_53 (by decide) (fun h53_1 => ?_) (fun h53_1 => ?_)
            · refine hg_aload0 d_R_number_96 ?_
              refine hg_getI d_R_number_97 f_R_23 rfl rfl (hX.lt (n := 1) ⟨by decide, by decide⟩ rfl (by omega)) ?_
              refine hg_eq1 (y := nI (p + 1)) (by simp [hg_u3]) ?_
              refine hg_iload1 d_R_number_100 ?_
              refine hg_icmp_le (tgt := 108) d_R_number_101 (by decide) (fun hle => ?_) (fun hle => ?_)
              · refine hg_iconst (v := 0) d_R_number_108 (by decide) ?_
                refine hg_ireturn d_R_number_109 rfl (by decide) ?_
                exact absurd hle (by rw [nI_leI (by omega) (by omega)]; omega)
              · refine hg_iconst (v := 1) d_R_number_104 (by decide) ?_
                refine hg_goto (tgt := 109) d_R_number_105 (by decide) ?_
                refine hg_ireturn d_R_number_109 rfl (by decide) ?_
                have hd1 : ps_dg n L (p + 1) = false := decide_eq_false (fun z => by first | (have := h53_1; rw [← ec1] at this; exact Int32.lt_irrefl (Int32.lt_of_lt_of_le this z.2.2)) | (have := h39_1; rw [← ec1] at this; exact Int32.lt_irrefl (Int32.lt_of_lt_of_le this z.2.1)) | (have := z.1; rw [nI_leI (by omega) (by omega)] at h25_1; omega))
                have hz : ps_nm n L p = (true, p + 1, c0 - 48) := by unfold ps_nm; rw [if_pos hd0, if_neg (by rw [hd1]; decide), hv0]
                rw [hz]; exact ⟨_, rfl, rfl, by simp [hg_u3, hp], by simp [hg_u3, nI], fun k hk => by funext a b; simp [hg_u3, hk], fun j h2 h5 => by simp [hg_u3, h2, h5]⟩
            · have h48_1 : 48 ≤ c1 := Nat.le_of_not_lt (fun z => h39_1 ((nI_ltI (b := 48) (by omega) (by decide)).mpr z))
              have h57_1 : c1 ≤ 57 := Nat.le_of_not_lt (fun z => h53_1 ((nI_ltI (a := 57) (by decide) (by omega)).mpr z))
              have hd1 : ps_dg n L (p + 1) = true := decide_eq_true ⟨hlt1, by rw [ec1]; exact (nI_leI (a := 48) (by decide) (by omega)).mpr h48_1, by rw [ec1]; exact (nI_leI (b := 57) (by omega) (by decide)).mpr h57_1⟩
              have hv1 : ps_d L (p + 1) = c1 - 48 := by unfold ps_d; rw [ec1, nI_clamp (by omega)]
              refine hg_aload0 d_R_number_56 ?_
              refine hg_bipush (v := 10) d_R_number_57 (by decide) ?_
              refine hg_aload0 d_R_number_59 ?_
              refine hg_getI d_R_number_60 f_R_54 rfl rfl (hX.lt (n := 1) ⟨by decide, by decide⟩ rfl (by omega)) ?_
              refine hg_eq1 (y := nI (c0 - 48)) (by simp [hg_u3]) ?_
              refine hg_imul d_R_number_63 ?_
              refine hg_eq1 (y := nI (10 * (c0 - 48))) (pk_mul _ _) ?_
              refine hg_aload0 d_R_number_64 ?_
              refine hg_getR d_R_number_65 f_R_11 rfl rfl (hX.lt (n := 1) ⟨by decide, by decide⟩ rfl (by omega)) hR.r0 ?_
              refine hg_aload0 d_R_number_68 ?_
              refine hg_getI d_R_number_69 f_R_23 rfl rfl (hX.lt (n := 1) ⟨by decide, by decide⟩ rfl (by omega)) ?_
              refine hg_eq1 (y := nI (p + 1)) (by simp [hg_u3]) ?_
              refine hg_bald_n (j := (p + 1)) d_R_number_72 rfl rfl (hX.lt (n := 1) ⟨by decide, by decide⟩ rfl (by omega)) (hX.jn (n := 100) (by decide) rfl (by omega)) ?_
              refine hg_eq1 (y := I 11 0 (p + 1)) (by simp [hg_u3]) ?_
              refine hg_eq1 (y := nI c1) ((hx.2.1 (p + 1) hlt1).trans ec1) ?_
              refine hg_iadd d_R_number_73 ?_
              refine hg_eq1 (y := nI ((10 * (c0 - 48)) + c1)) (nI_add _ _) ?_
              refine hg_bipush (v := 48) d_R_number_74 (by decide) ?_
              refine hg_isub d_R_number_76 ?_
              refine hg_eq1 (y := nI (10 * (c0 - 48) + (c1 - 48))) ((pk_sub (b := 48) (by omega)).trans (by congr 1; omega)) ?_
              refine hg_putI d_R_number_77 f_R_54 rfl rfl (Or.inl rfl) rfl rfl (hX.lt (n := 1) ⟨by decide, by decide⟩ rfl (by omega)) ?_
              refine hg_aload0 d_R_number_80 ?_
              refine hg_dup d_R_number_81 rfl ?_
              refine hg_getI d_R_number_82 f_R_23 rfl rfl (hX.lt (n := 1) ⟨by decide, by decide⟩ rfl (by omega)) ?_
              refine hg_eq1 (y := nI (p + 1)) (by simp [hg_u3]) ?_
              refine hg_iconst (v := 1) d_R_number_85 (by decide) ?_
              refine hg_iadd d_R_number_86 ?_
              refine hg_eq1 (y := nI ((p + 1) + 1)) (nI_add _ _) ?_
              refine hg_putI d_R_number_87 f_R_23 rfl rfl (Or.inl rfl) rfl rfl (hX.lt (n := 1) ⟨by decide, by decide⟩ rfl (by omega)) ?_
              refine hg_iinc2 (v := 2) d_R_number_90 rfl (by decide) ?_
              refine hg_goto (tgt := 12) d_R_number_93 (by decide) ?_
              refine hg_iload2 d_R_number_12 ?_
              refine hg_iconst (v := 2) d_R_number_13 (by decide) ?_
              refine hg_icmp_ge (tgt := 96) d_R_number_14 (by decide) (fun h_3 => ?_) (fun h_3 => absurd (by decide) h_3)
              refine hg_aload0 d_R_number_96 ?_
              refine hg_getI d_R_number_97 f_R_23 rfl rfl (hX.lt (n := 1) ⟨by decide, by decide⟩ rfl (by omega)) ?_
              refine hg_eq1 (y := nI ((p + 1) + 1)) (by simp [hg_u3]) ?_
              refine hg_iload1 d_R_number_100 ?_
              refine hg_icmp_le (tgt := 108) d_R_number_101 (by decide) (fun hle => ?_) (fun hle => ?_)
              · refine hg_iconst (v := 0) d_R_number_108 (by decide) ?_
                refine hg_ireturn d_R_number_109 rfl (by decide) ?_
                exact absurd hle (by rw [nI_leI (by omega) (by omega)]; omega)
              · refine hg_iconst (v := 1) d_R_number_104 (by decide) ?_
                refine hg_goto (tgt := 109) d_R_number_105 (by decide) ?_
                refine hg_ireturn d_R_number_109 rfl (by decide) ?_
                have hz : ps_nm n L p = (true, p + 2, 10 * (c0 - 48) + (c1 - 48)) := by unfold ps_nm; rw [if_pos hd0, if_pos hd1, hv0, hv1]
                rw [hz]; exact ⟨_, rfl, rfl, by simp [hg_u3, hp], by simp [hg_u3, nI], fun k hk => by funext a b; simp [hg_u3, hk], fun j h2 h5 => by simp [hg_u3, h2, h5]⟩

theorem m_R_word_loop {t p : Nat} (ht : t < 5) (hX : hg_XS T X) (hR : hg_SR T Rf) (hx : ps_X n L I) (hp : I 10 0 2 = nI p) (hpn : p ≤ n) : ∀ (k j p1 : Nat) (I1 : Nat → Nat → Nat → Int32), j + k = hg_sz t → I1 10 0 2 = nI p1 → p1 ≤ n → (∀ k, k ≠ 10 → I1 k = I k) → (∀ j, j ≠ 2 → I1 10 0 j = I 10 0 j) → ps_wd n L t (hg_sz t) 0 p = ps_wd n L t k j p1 → hg_WP l E (d + 4) Y_R_word 0 0 2 [some (.ref (hg_ad E 10 0)), some (.ref (hg_ex E (10 + t))), some (.int (nI j))] [] (I1, Lg, Rf, X) (hg_i (fun v M' => ∃ I' : Nat → Nat → Nat → Int32, v = (if (ps_wd n L t (hg_sz t) 0 p).1 = true then 1 else 0) ∧ M' = (I', Lg, Rf, X) ∧ I' 10 0 2 = nI (ps_wd n L t (hg_sz t) 0 p).2 ∧ (ps_wd n L t (hg_sz t) 0 p).2 ≤ n ∧ (∀ k, k ≠ 10 → I' k = I k) ∧ ∀ j, j ≠ 2 → I' 10 0 j = I 10 0 j)) := by
  have hn100 := hx.2.2.1
  have hsl := hg_sz_le t ht
  intro k
  induction k with
  | zero =>
    intro j p1 I1 hjk h2 h3 h4 h5 hq
    obtain rfl : j = hg_sz t := by omega
    refine hg_iload2 d_R_word_2 ?_
    refine hg_aload1 d_R_word_3 ?_
    refine hg_cQi d_R_word_4 l_R_87 ht rfl rfl (Nat.le_of_ble_eq_true rfl) (m_JS_length ht) rfl ?_
    rintro _ _ ⟨rfl, rfl⟩
    refine hg_icmp_ge (tgt := 30) d_R_word_7 (by decide) (fun h_1 => ?_) (fun h_1 => absurd (Int32.le_refl _) h_1)
    refine hg_iconst (v := 1) d_R_word_30 (by decide) ?_
    refine hg_ireturn d_R_word_31 rfl (by decide) ?_
    refine ⟨I1, ?_, rfl, ?_, ?_, h4, h5⟩ <;> rw [hq]
    · rfl
    · exact h2
    · exact h3
  | succ k ih =>
    intro j p1 I1 hjk h2 h3 h4 h5 hq
    have hx1 : ps_X n L I1 := hx.fd ⟨fun k a _ => h4 k a, h5 1 (by decide)⟩
    refine hg_iload2 d_R_word_2 ?_
    refine hg_aload1 d_R_word_3 ?_
    refine hg_cQi d_R_word_4 l_R_87 ht rfl rfl (Nat.le_of_ble_eq_true rfl) (m_JS_length ht) rfl ?_
    rintro _ _ ⟨rfl, rfl⟩
    refine hg_icmp_ge (tgt := 30) d_R_word_7 (by decide) (fun h_2 => absurd h_2 (nI_ge (by omega) (by omega))) (fun h_2 => ?_)
    refine hg_aload0 d_R_word_10 ?_
    refine hg_aload1 d_R_word_11 ?_
    refine hg_iload2 d_R_word_12 ?_
    refine hg_cQi d_R_word_13 l_R_91 ht rfl rfl (Nat.le_of_ble_eq_true rfl) (m_JS_charAt ht (show j < hg_sz t by omega)) rfl ?_
    rintro _ _ ⟨rfl, rfl⟩
    refine hg_cVi d_R_word_16 l_R_36 rfl rfl (hX.lt (n := 1) ⟨by decide, by decide⟩ rfl (by omega)) rfl (Nat.le_of_ble_eq_true rfl) (m_R_sign (n := n) (L := L) (p := p1) hX hR hx1 h2 h3) rfl ?_
    rintro _ _ (hsg | hsg)
    · obtain ⟨hsg, rfl, rfl⟩ := hsg
      refine hg_if_ne (tgt := 24) d_R_word_19 (by decide) (fun h_3 => ?_) (fun h_3 => absurd (by decide) h_3)
      refine hg_iinc2 (v := nI (j + 1)) d_R_word_24 rfl (nI_add _ _) ?_
      refine hg_goto (tgt := 2) d_R_word_27 (by decide) ?_
      have hlt := (ps_sg_t hsg).1
      exact ih (j + 1) (p1 + 1) _ (by omega) (by simp [hg_u3]) (by omega) (fun k hk => by rw [← h4 k hk]; funext a b; exact hg_u3k (fun z => hk z.1)) (fun j hj => by rw [← h5 j hj]; simp [hg_u3, hj]) (hq.trans (if_pos hsg))
    · obtain ⟨hsg, rfl, rfl⟩ := hsg
      refine hg_if_ne (tgt := 24) d_R_word_19 (by decide) (fun h_4 => absurd h_4 (by decide)) (fun h_4 => ?_)
      refine hg_iconst (v := 0) d_R_word_22 (by decide) ?_
      refine hg_ireturn d_R_word_23 rfl (by decide) ?_
      have hz := hq.trans (if_neg (by rw [hsg]; decide))
      refine ⟨I1, ?_, rfl, ?_, ?_, h4, h5⟩ <;> rw [hz]
      · rfl
      · exact h2
      · exact h3
theorem m_R_word {t p : Nat} (ht : t < 5) (hX : hg_XS T X) (hR : hg_SR T Rf) (hx : ps_X n L I) (hp : I 10 0 2 = nI p) (hpn : p ≤ n) : hg_MC l E (d + 5) Y_R_word 0 0 [.ref (hg_ad E 10 0), .ref (hg_ex E (10 + t))] (I, Lg, Rf, X) (hg_i (fun v M' => ∃ I' : Nat → Nat → Nat → Int32, v = (if (ps_wd n L t (hg_sz t) 0 p).1 = true then 1 else 0) ∧ M' = (I', Lg, Rf, X) ∧ I' 10 0 2 = nI (ps_wd n L t (hg_sz t) 0 p).2 ∧ (ps_wd n L t (hg_sz t) 0 p).2 ≤ n ∧ (∀ k, k ≠ 10 → I' k = I k) ∧ ∀ j, j ≠ 2 → I' 10 0 j = I 10 0 j)) := by
  refine hg_mc k_R_word (Nat.le_of_ble_eq_true rfl) ?_
  show hg_WP l E _ Y_R_word 0 0 0 [some (.ref (hg_ad E 10 0)), some (.ref (hg_ex E (10 + t))), none] [] (I, Lg, Rf, X) _
  refine hg_iconst (v := 0) d_R_word_0 (by decide) ?_
  refine hg_istore2 d_R_word_1 rfl ?_
  exact m_R_word_loop ht hX hR hx hp hpn _ 0 p I (Nat.zero_add _) hp hpn (fun _ _ => rfl) (fun _ _ => rfl) rfl

theorem m_R_write {w : Nat} {a b c : Int32} (hX : hg_XS T X) (hR : hg_SR T Rf) (hw : I 10 0 4 = nI w) (hw1 : w ≤ 100) : hg_MC l E (d + 1) Y_R_write 0 0 [.ref (hg_ad E 10 0), .int a, .int b, .int c] (I, Lg, Rf, X) (hg_v (fun M' => (w = 100 ∧ M' = (I, Lg, Rf, X)) ∨ (w < 100 ∧ M' = (hg_u3 (hg_u3 I 12 0 w (64 * a + 8 * b + c)) 10 0 4 (nI (w + 1)), Lg, Rf, X)))) := by
  refine hg_mc k_R_write (Nat.le_of_ble_eq_true rfl) ?_
  show hg_WP l E _ Y_R_write 0 0 0 [some (.ref (hg_ad E 10 0)), some (.int a), some (.int b), some (.int c)] [] (I, Lg, Rf, X) _
  refine hg_aload0 d_R_write_0 ?_
  refine hg_getI d_R_write_1 f_R_26 rfl rfl (hX.lt (n := 1) ⟨by decide, by decide⟩ rfl (by omega)) ?_
  refine hg_eq1 (y := nI w) (hw) ?_
  refine hg_bipush (v := 100) d_R_write_4 (by decide) ?_
  refine hg_icmp_ne (tgt := 10) d_R_write_6 (by decide) (fun h1 => ?_) (fun h1 => ?_)
  · have he : w < 100 := Nat.lt_of_le_of_ne hw1 (fun z => h1 (by rw [z]; rfl))
    refine hg_aload0 d_R_write_10 ?_
    refine hg_getR d_R_write_11 f_R_15 rfl rfl (hX.lt (n := 1) ⟨by decide, by decide⟩ rfl (by omega)) hR.r3 ?_
    refine hg_aload0 d_R_write_14 ?_
    refine hg_getI d_R_write_15 f_R_26 rfl rfl (hX.lt (n := 1) ⟨by decide, by decide⟩ rfl (by omega)) ?_
    refine hg_eq1 (y := nI w) (hw) ?_
    refine hg_bipush (v := 64) d_R_write_18 (by decide) ?_
    refine hg_iload1 d_R_write_20 ?_
    refine hg_imul d_R_write_21 ?_
    refine hg_bipush (v := 8) d_R_write_22 (by decide) ?_
    refine hg_iload2 d_R_write_24 ?_
    refine hg_imul d_R_write_25 ?_
    refine hg_iadd d_R_write_26 ?_
    refine hg_iload3 d_R_write_27 ?_
    refine hg_iadd d_R_write_28 ?_
    refine hg_iast_n (j := w) d_R_write_29 rfl rfl (hX.lt (n := 1) ⟨by decide, by decide⟩ rfl (by omega)) (hX.jn (n := 100) (by decide) rfl (by omega)) ?_
    refine hg_aload0 d_R_write_30 ?_
    refine hg_dup d_R_write_31 rfl ?_
    refine hg_getI d_R_write_32 f_R_26 rfl rfl (hX.lt (n := 1) ⟨by decide, by decide⟩ rfl (by omega)) ?_
    refine hg_eq1 (y := I 10 0 4) (by simp [hg_u3]) ?_
    refine hg_eq1 (y := nI w) (hw) ?_
    refine hg_iconst (v := 1) d_R_write_35 (by decide) ?_
    refine hg_iadd d_R_write_36 ?_
    refine hg_eq1 (y := nI (w + 1)) (nI_add _ _) ?_
    refine hg_putI d_R_write_37 f_R_26 rfl rfl (Or.inl rfl) rfl rfl (hX.lt (n := 1) ⟨by decide, by decide⟩ rfl (by omega)) ?_
    refine hg_return d_R_write_40 rfl ?_
    exact Or.inr ⟨he, rfl⟩
  · replace h1 := Decidable.not_not.mp h1
    have he : w = 100 := (nI_eq (by omega) (by decide)).mp (show nI w = nI 100 from h1)
    refine hg_return d_R_write_9 rfl ?_
    exact Or.inl ⟨he, rfl⟩

end M17
