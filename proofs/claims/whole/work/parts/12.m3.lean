/-! Scene: who is ill, who is HOST, a THURSDAY -/
section M3
variable {l : Launch} {E : hg_E} {d T : Nat}
variable {I : Nat → Nat → Nat → Int32} {Lg : Nat → Nat → Nat → Int64} {Rf : Nat → Nat → Nat → Option (Nat × Nat)} {X : Nat × (Nat → Nat) × (Nat → Nat → Nat)}

theorem m_S_isIll {tw : hs_W} {σ : hs_S} {s h : Nat} (hX : hg_XS T X) (hR : hg_SR T Rf) (hs : s < 3) (hC : hs_C s σ I Rf) (hO : hs_ok T σ) (hW : hc_TW T tw I X) (hh : h < hs_n σ) (hw : hs_wk σ < 2 ^ 31) : hg_MC l E (d + 3) Y_S_isIll 0 0 [.ref (hg_ad E 1 s), .int (nI h)] (I, Lg, Rf, X) (hg_i (fun v M' => ∃ I' : Nat → Nat → Nat → Int32, ((hs_ill tw σ h ∧ v = 1) ∨ (¬ hs_ill tw σ h ∧ v = 0)) ∧ M' = (I', Lg, Rf, X) ∧ hg_e6 I' I)) := by
  have hn6 := hO.1
  refine hg_mc k_S_isIll (Nat.le_of_ble_eq_true rfl) ?_
  show hg_WP l E _ Y_S_isIll 0 0 0 [some (.ref (hg_ad E 1 s)), some (.int (nI h))] [] (I, Lg, Rf, X) _
  refine hg_aload0 d_S_isIll_0 ?_
  refine hg_getR d_S_isIll_1 f_S_11 rfl rfl (hX.lt (n := 3) ⟨by decide, by decide⟩ rfl (by omega)) (hR.s0 (by omega)) ?_
  refine hg_iload1 d_S_isIll_4 ?_
  refine hg_aald_n (j := h) d_S_isIll_5 rfl (by decide) (hX.lt (n := 3) ⟨by decide, by decide⟩ rfl (by omega)) (hX.jn (n := 6) (by decide) rfl (by omega)) (hR.ha (by omega) (by omega)) ?_
  refine hg_getI d_S_isIll_6 f_S_91 rfl rfl (hX.lt (n := 18) ⟨by decide, by decide⟩ rfl (by omega)) ?_
  refine hg_eq1 (y := hs_hv σ h 6) (hC.2.2.2.2.2.2.1 h 6 hh (by decide)) ?_
  refine hg_if_ne (tgt := 27) d_S_isIll_9 (by decide) (fun hA => ?_) (fun hA => ?_)
  · refine hg_iconst (v := 1) d_S_isIll_27 (by decide) ?_
    refine hg_goto (tgt := 32) d_S_isIll_28 (by decide) ?_
    refine hg_ireturn d_S_isIll_32 rfl (by decide) ?_
    exact ⟨I, Or.inl ⟨Or.inl hA, rfl⟩, rfl, hg_e6.rf⟩
  · replace hA := Decidable.not_not.mp hA
    have hA : ¬¬ _ := fun q => q hA
    refine hg_aload0 d_S_isIll_12 ?_
    refine hg_iload1 d_S_isIll_13 ?_
    refine hg_cVi d_S_isIll_14 l_S_95 rfl rfl (hX.lt (n := 3) ⟨by decide, by decide⟩ rfl (by omega)) rfl (Nat.le_of_ble_eq_true rfl) (m_S_dread hX hR hs hC hO hW hh hw) rfl ?_
    rintro _ _ ⟨I1, rfl, rfl, he1⟩
    have hC1 := hC.e6 he1
    have hW1 := hW.e6 he1
    refine hg_aload0 d_S_isIll_17 ?_
    refine hg_getR d_S_isIll_18 f_S_24 rfl rfl (hX.lt (n := 3) ⟨by decide, by decide⟩ rfl (by omega)) hC1.2.2.2.2.2.2.2.2 ?_
    refine hg_getI d_S_isIll_21 f_S_98 rfl rfl (hX.tw hO.2.2.2.2.2.2.2) ?_
    refine hg_eq1 (y := (tw (hs_tn σ)).2) ((hW1 _ hO.2.2.2.2.2.2.2).1) ?_
    refine hg_icmp_lt (tgt := 31) d_S_isIll_24 (by decide) (fun hB => ?_) (fun hB => ?_)
    · refine hg_iconst (v := 0) d_S_isIll_31 (by decide) ?_
      refine hg_ireturn d_S_isIll_32 rfl (by decide) ?_
      exact ⟨I1, Or.inr ⟨fun q => q.elim (fun z => z (Decidable.not_not.mp hA)) (fun z => absurd hB (Int32.not_lt.mpr z)), rfl⟩, rfl, he1⟩
    · refine hg_iconst (v := 1) d_S_isIll_27 (by decide) ?_
      refine hg_goto (tgt := 32) d_S_isIll_28 (by decide) ?_
      refine hg_ireturn d_S_isIll_32 rfl (by decide) ?_
      exact ⟨I1, Or.inl ⟨Or.inr (Int32.not_lt.mp hB), rfl⟩, rfl, he1⟩

/-- the place of the HOST -/
noncomputable def hs_hpv (σ : hs_S) : Option Nat → Int32
  | none => -1
  | some i => nI (hs_pl σ i)
theorem m_S_hostPlace_loop {tw : hs_W} {σ : hs_S} {s : Nat} (hX : hg_XS T X) (hR : hg_SR T Rf) (hs : s < 3) (hC : hs_C s σ I Rf) (hO : hs_ok T σ) (hW : hc_TW T tw I X) (hw : hs_wk σ < 2 ^ 31) : ∀ (k i : Nat) (I1 : Nat → Nat → Nat → Int32) (a2 : Option Value), i + k = hs_n σ → hs_hpA tw σ k i = hs_hp tw σ → hg_e6 I1 I → hg_WP l E (d + 3) Y_S_hostPlace 0 0 2 [some (.ref (hg_ad E 1 s)), some (.int (nI i)), a2] [] (I1, Lg, Rf, X) (hg_i (fun v M' => ∃ I' : Nat → Nat → Nat → Int32, v = hs_hpv σ (hs_hp tw σ) ∧ M' = (I', Lg, Rf, X) ∧ hg_e6 I' I)) := by
  intro k
  induction k with
  | zero =>
    intro i I1 a2 hik hq he
    have hC1 := hC.e6 he
    have hn6 := hO.1
    refine hg_iload1 d_S_hostPlace_2 ?_
    refine hg_aload0 d_S_hostPlace_3 ?_
    refine hg_getI d_S_hostPlace_4 f_S_29 rfl rfl (hX.lt (n := 3) ⟨by decide, by decide⟩ rfl (by omega)) ?_
    refine hg_eq1 (y := nI (hs_n σ)) (hC1.1) ?_
    refine hg_icmp_ge (tgt := 37) d_S_hostPlace_7 (by decide) (fun h_1 => ?_) (fun h_1 => absurd (by rw [show i = hs_n σ by omega]; exact Int32.le_refl _) h_1)
    refine hg_iconst (v := (-1)) d_S_hostPlace_37 (by decide) ?_
    refine hg_ireturn d_S_hostPlace_38 rfl rfl ?_
    exact ⟨I1, by rw [← hq]; rfl, rfl, he⟩
  | succ k ih =>
    intro i I1 a2 hik hq he
    have hC1 := hC.e6 he
    have hn6 := hO.1
    have hp : hs_p σ < hs_n σ := by have := hO.2.1; omega
    have hpl : hs_pl σ i < hs_n σ := hg_pl_lt hp (by omega)
    have hst := hO.2.2.1 _ hpl
    refine hg_iload1 d_S_hostPlace_2 ?_
    refine hg_aload0 d_S_hostPlace_3 ?_
    refine hg_getI d_S_hostPlace_4 f_S_29 rfl rfl (hX.lt (n := 3) ⟨by decide, by decide⟩ rfl (by omega)) ?_
    refine hg_eq1 (y := nI (hs_n σ)) (hC1.1) ?_
    refine hg_icmp_ge (tgt := 37) d_S_hostPlace_7 (by decide) (fun h_2 => absurd h_2 (nI_ge (by omega) (by omega))) (fun h_2 => ?_)
    refine hg_aload0 d_S_hostPlace_10 ?_
    refine hg_iload1 d_S_hostPlace_11 ?_
    refine hg_cVi d_S_hostPlace_12 l_S_105 rfl rfl (hX.lt (n := 3) ⟨by decide, by decide⟩ rfl (by omega)) rfl (Nat.le_of_ble_eq_true rfl) (m_S_behindPoint hX hs hC1.1 hC1.2.1 hn6 (by omega) (by omega)) rfl ?_
    rintro _ _ ⟨rfl, rfl⟩
    refine hg_istore2 d_S_hostPlace_15 rfl ?_
    refine hg_aload0 d_S_hostPlace_16 ?_
    refine hg_aload0 d_S_hostPlace_17 ?_
    refine hg_getR d_S_hostPlace_18 f_S_17 rfl rfl (hX.lt (n := 3) ⟨by decide, by decide⟩ rfl (by omega)) (hR.s1 (by omega)) ?_
    refine hg_iload2 d_S_hostPlace_21 ?_
    refine hg_iald_n (j := (hs_pl σ i)) d_S_hostPlace_22 rfl rfl (hX.lt (n := 3) ⟨by decide, by decide⟩ rfl (by omega)) (hX.jn (n := 6) (by decide) rfl (by omega)) ?_
    refine hg_eq1 (y := nI (hs_st σ (hs_pl σ i))) (hC1.2.2.2.2.2.1 _ hpl) ?_
    refine hg_cVi d_S_hostPlace_23 l_S_108 rfl rfl (hX.lt (n := 3) ⟨by decide, by decide⟩ rfl (by omega)) rfl (Nat.le_of_ble_eq_true rfl) (m_S_isIll hX hR hs hC1 hO (hW.e6 he) hst hw) rfl ?_
    rintro _ _ ⟨I2, ⟨hill, rfl⟩ | ⟨hill, rfl⟩, rfl, he2⟩
    · refine hg_if_ne (tgt := 31) d_S_hostPlace_26 (by decide) (fun h_3 => ?_) (fun h_3 => absurd (by decide) h_3)
      refine hg_iinc1 (v := nI (i + 1)) d_S_hostPlace_31 rfl (nI_add _ _) ?_
      refine hg_goto (tgt := 2) d_S_hostPlace_34 (by decide) ?_
      refine ih (i + 1) I2 _ (by omega) ?_ (he2.tr he)
      rw [← hq]; unfold hs_hpA
      rw [hs_illb_t hill]; simp only [if_pos]
      cases k <;> rfl
    · refine hg_if_ne (tgt := 31) d_S_hostPlace_26 (by decide) (fun h_4 => absurd h_4 (by decide)) (fun h_4 => ?_)
      refine hg_iload2 d_S_hostPlace_29 ?_
      refine hg_ireturn d_S_hostPlace_30 rfl rfl ?_
      refine ⟨I2, ?_, rfl, he2.tr he⟩
      rw [← hq]; unfold hs_hpA
      rw [hs_illb_f hill]; rfl
theorem m_S_hostPlace {tw : hs_W} {σ : hs_S} {s : Nat} (hX : hg_XS T X) (hR : hg_SR T Rf) (hs : s < 3) (hC : hs_C s σ I Rf) (hO : hs_ok T σ) (hW : hc_TW T tw I X) (hw : hs_wk σ < 2 ^ 31) : hg_MC l E (d + 4) Y_S_hostPlace 0 0 [.ref (hg_ad E 1 s)] (I, Lg, Rf, X) (hg_i (fun v M' => ∃ I' : Nat → Nat → Nat → Int32, v = hs_hpv σ (hs_hp tw σ) ∧ M' = (I', Lg, Rf, X) ∧ hg_e6 I' I)) := by
  refine hg_mc k_S_hostPlace (Nat.le_of_ble_eq_true rfl) ?_
  show hg_WP l E _ Y_S_hostPlace 0 0 0 [some (.ref (hg_ad E 1 s)), none, none] [] (I, Lg, Rf, X) _
  refine hg_iconst (v := 0) d_S_hostPlace_0 (by decide) ?_
  refine hg_istore1 d_S_hostPlace_1 rfl ?_
  exact m_S_hostPlace_loop hX hR hs hC hO hW hw _ 0 I none (Nat.zero_add _) rfl hg_e6.rf

noncomputable def hs_hov : Option Nat → Int32
  | none => -1
  | some h => nI h
theorem m_S_host {tw : hs_W} {σ : hs_S} {s : Nat} (hX : hg_XS T X) (hR : hg_SR T Rf) (hs : s < 3) (hC : hs_C s σ I Rf) (hO : hs_ok T σ) (hW : hc_TW T tw I X) (hw : hs_wk σ < 2 ^ 31) : hg_MC l E (d + 5) Y_S_host 0 0 [.ref (hg_ad E 1 s)] (I, Lg, Rf, X) (hg_i (fun v M' => ∃ I' : Nat → Nat → Nat → Int32, v = hs_hov (hs_ho tw σ) ∧ M' = (I', Lg, Rf, X) ∧ hg_e6 I' I)) := by
  have hn6 := hO.1
  refine hg_mc k_S_host (Nat.le_of_ble_eq_true rfl) ?_
  show hg_WP l E _ Y_S_host 0 0 0 [some (.ref (hg_ad E 1 s)), none] [] (I, Lg, Rf, X) _
  refine hg_aload0 d_S_host_0 ?_
  refine hg_cVi d_S_host_1 l_S_101 rfl rfl (hX.lt (n := 3) ⟨by decide, by decide⟩ rfl (by omega)) rfl (Nat.le_of_ble_eq_true rfl) (m_S_hostPlace hX hR hs hC hO hW hw) rfl ?_
  rintro _ _ ⟨I1, rfl, rfl, he1⟩
  cases hq : hs_hp tw σ with
  | none =>
    have hhp : hs_hp tw σ = none := hq
    have hC1 := hC.e6 he1
    show hg_WP l E _ Y_S_host 0 0 4 [some (.ref (hg_ad E 1 s)), none] [.int (-1)] (I1, Lg, Rf, X) _
    refine hg_istore1 d_S_host_4 rfl ?_
    refine hg_iload1 d_S_host_5 ?_
    refine hg_if_ge (tgt := 13) d_S_host_6 (by decide) (fun h_1 => absurd h_1 (by decide)) (fun h_1 => ?_)
    refine hg_iconst (v := (-1)) d_S_host_9 (by decide) ?_
    refine hg_goto (tgt := 19) d_S_host_10 (by decide) ?_
    refine hg_ireturn d_S_host_19 rfl rfl ?_
    refine ⟨I1, ?_, rfl, he1⟩
    unfold hs_ho
    rw [hhp]; rfl
  | some i =>
    have hhp : hs_hp tw σ = some i := hq
    have hC1 := hC.e6 he1
    have hi := hs_hp_lt hhp
    have hp : hs_p σ < hs_n σ := by have := hO.2.1; omega
    have hpl : hs_pl σ i < hs_n σ := hg_pl_lt hp (Nat.le_of_lt hi)
    have hst := hO.2.2.1 _ hpl
    show hg_WP l E _ Y_S_host 0 0 4 [some (.ref (hg_ad E 1 s)), none] [.int (nI (hs_pl σ i))] (I1, Lg, Rf, X) _
    refine hg_istore1 d_S_host_4 rfl ?_
    refine hg_iload1 d_S_host_5 ?_
    refine hg_if_ge (tgt := 13) d_S_host_6 (by decide) (fun h_2 => ?_) (fun h_2 => absurd (nI_pos' (by omega)) h_2)
    refine hg_aload0 d_S_host_13 ?_
    refine hg_getR d_S_host_14 f_S_17 rfl rfl (hX.lt (n := 3) ⟨by decide, by decide⟩ rfl (by omega)) (hR.s1 (by omega)) ?_
    refine hg_iload1 d_S_host_17 ?_
    refine hg_iald_n (j := (hs_pl σ i)) d_S_host_18 rfl rfl (hX.lt (n := 3) ⟨by decide, by decide⟩ rfl (by omega)) (hX.jn (n := 6) (by decide) rfl (by omega)) ?_
    refine hg_eq1 (y := nI (hs_st σ (hs_pl σ i))) (hC1.2.2.2.2.2.1 _ hpl) ?_
    refine hg_ireturn d_S_host_19 rfl rfl ?_
    refine ⟨I1, ?_, rfl, he1⟩
    unfold hs_ho
    rw [hhp]; rfl

end M3
