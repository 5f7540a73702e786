/-! the model: doors, odds, mean -/
section M39
variable {l : Launch} {E : hg_E} {d T : Nat}
variable {I : Nat → Nat → Nat → Int32} {Lg : Nat → Nat → Nat → Int64} {Rf : Nat → Nat → Nat → Option (Nat × Nat)} {X : Nat × (Nat → Nat) × (Nat → Nat → Nat)}
variable {I' I1 : Nat → Nat → Nat → Int32} {Lg' : Nat → Nat → Nat → Int64} {σ τ : hs_S} {tw : hs_W} {a0 a2 a4 : hs_L} {G : hs_G}
theorem hs_chg2 {T : Nat} (hO : hs_ok T σ) {p q : Nat} (hp : p < hs_n σ) (hq : q < hs_n σ) (hpq : p ≠ q) : ∀ x, hs_st (hs_chg (hs_chg σ p q) p q) x = hs_st σ x := by
  obtain ⟨hi1, hi2⟩ := hs_plc_ok hO hp
  obtain ⟨hj1, hj2⟩ := hs_plc_ok hO hq
  have hij : hs_plc σ p ≠ hs_plc σ q := fun e => hpq (by rw [← hi2, ← hj2, e])
  have k1 : hs_st (hs_chg σ p q) (hs_plc σ q) = p := by show (if _ then _ else _) = _; rw [if_pos rfl]; exact hi2
  have k2 : hs_st (hs_chg σ p q) (hs_plc σ p) = q := by show (if _ then _ else (if _ then _ else _)) = _; rw [if_neg hij, if_pos rfl]; exact hj2
  have hO2 := hO.chg hp hq
  have e1 : hs_plc (hs_chg σ p q) p = hs_plc σ q := by
    have := hs_plc_eq hO2 (j := hs_plc σ q) hj1; rwa [k1] at this
  have e2 : hs_plc (hs_chg σ p q) q = hs_plc σ p := by
    have := hs_plc_eq hO2 (j := hs_plc σ p) hi1; rwa [k2] at this
  intro x
  show (if x = hs_plc (hs_chg σ p q) q then hs_st (hs_chg σ p q) (hs_plc (hs_chg σ p q) p) else if x = hs_plc (hs_chg σ p q) p then hs_st (hs_chg σ p q) (hs_plc (hs_chg σ p q) q) else hs_st (hs_chg σ p q) x) = _
  rw [e1, e2, k1, k2]
  by_cases z : x = hs_plc σ p
  · rw [if_pos z, z, hi2]
  · rw [if_neg z]
    by_cases y : x = hs_plc σ q
    · rw [if_pos y, y, hj2]
    · rw [if_neg y]; show (if x = hs_plc σ q then _ else if x = hs_plc σ p then _ else hs_st σ x) = _; rw [if_neg y, if_neg z]
theorem hs_MS.sq {s2 : Nat → Nat} (h : hs_MS (hs_sst σ s2) I) (e : ∀ j, s2 j = hs_st σ j) : hs_MS σ I := ⟨h.1, h.2.1, h.2.2.1, h.2.2.2.1, h.2.2.2.2.1, h.2.2.2.2.2.1, fun j hj => (h.2.2.2.2.2.2.1 j hj).trans (congrArg nI (e j)), h.2.2.2.2.2.2.2.1, h.2.2.2.2.2.2.2.2⟩
theorem hs_MS.hq {w2 : Nat → Nat → Int32} (h : hs_MS (hs_sw σ w2) I) (e : ∀ p f, w2 p f = hs_hv σ p f) : hs_MS σ I := ⟨h.1, h.2.1, h.2.2.1, h.2.2.2.1, h.2.2.2.2.1, h.2.2.2.2.2.1, h.2.2.2.2.2.2.1, fun p f hp hf => (h.2.2.2.2.2.2.2.1 p f hp hf).trans (e p f), h.2.2.2.2.2.2.2.2⟩
theorem m_M_doors_in {m p : Nat} {w : Int32} (hX : hg_XS T X) (hR : hg_SR T Rf) (hO : hs_ok T σ) (hw : hs_wk σ ≤ 9999) (hT : hs_MT T tw I) (hb : hs_Lb σ a0 a2 a4) (hm : m ≤ 60) (hp : p < hs_n σ) (r : Nat × Int32) (K : ∀ (b6 : Option Value) (I2 : Nat → Nat → Nat → Int32), hs_MG σ a0 a2 a4 I2 → hm_s I2 I → r.1 < 2 ^ 31 → hg_WP l E (d + 8) Y_M_doors 0 0 25 [some (.ref (hg_ad E 21 0)), some (.int (nI m)), some (.int (nI r.1)), some (.int r.2), some (.int (nI (p + 1))), some (.int (nI (hs_n σ))), b6] [] (I2, Lg, Rf, X) (hg_i (fun v M' => v = w ∧ ∃ I' : Nat → Nat → Nat → Int32, M' = (I', Lg, Rf, X) ∧ hs_MG σ a0 a2 a4 I' ∧ hm_s I' I))) : ∀ (k q : Nat) (a : Nat × Int32) (a6 : Option Value) (I1 : Nat → Nat → Nat → Int32), q + k = hs_n σ → p < q → a.1 < 2 ^ 31 → hs_MG σ a0 a2 a4 I1 → hm_s I1 I → sp_d2 tw σ m p k q a = r → hg_WP l E (d + 8) Y_M_doors 0 0 40 [some (.ref (hg_ad E 21 0)), some (.int (nI m)), some (.int (nI a.1)), some (.int a.2), some (.int (nI p)), some (.int (nI q)), a6] [] (I1, Lg, Rf, X) (hg_i (fun v M' => v = w ∧ ∃ I' : Nat → Nat → Nat → Int32, M' = (I', Lg, Rf, X) ∧ hs_MG σ a0 a2 a4 I' ∧ hm_s I' I)) := by
  have hn6 := hO.1
  intro k
  induction k with
  | zero =>
    intro q a a6 I1 hqk hpq ha hg hs he
    obtain rfl : q = hs_n σ := by omega
    obtain rfl : a = r := he
    refine hg_iload5 d_M_doors_40 ?_
    refine hg_aload0 d_M_doors_42 ?_
    refine hg_getI d_M_doors_43 f_M_108 rfl rfl (hX.lt (n := 1) ⟨by decide, by decide⟩ rfl (by omega)) ?_
    refine hg_eq1 (y := nI (hs_n σ)) (hg.1.1) ?_
    refine hg_icmp_ge (tgt := 99) d_M_doors_46 (by decide) (fun h_1 => ?_) (fun h_1 => absurd (Int32.le_refl _) h_1)
    refine hg_iinc4 (v := nI (p + 1)) d_M_doors_99 rfl (nI_add _ _) ?_
    refine hg_goto (tgt := 25) d_M_doors_102 (by decide) ?_
    exact K _ I1 hg hs ha
  | succ k ih =>
    intro q a a6 I1 hqk hpq ha hg hs he
    have hq : q < hs_n σ := by omega
    refine hg_iload5 d_M_doors_40 ?_
    refine hg_aload0 d_M_doors_42 ?_
    refine hg_getI d_M_doors_43 f_M_108 rfl rfl (hX.lt (n := 1) ⟨by decide, by decide⟩ rfl (by omega)) ?_
    refine hg_eq1 (y := nI (hs_n σ)) (hg.1.1) ?_
    refine hg_icmp_ge (tgt := 99) d_M_doors_46 (by decide) (fun h_2 => absurd h_2 (nI_ge (by omega) (by omega))) (fun h_2 => ?_)
    refine hg_aload0 d_M_doors_49 ?_
    refine hg_iload4 d_M_doors_50 ?_
    refine hg_iload5 d_M_doors_52 ?_
    obtain ⟨hp1, hp2⟩ := hs_plc_ok hO hp
    obtain ⟨hq1, hq2⟩ := hs_plc_ok hO hq
    have K1 := m_M_swaps (l := l) (E := E) (d := d + 6) (Lg := Lg) hX hR hg.1 hO hp1 hq1
    rw [hp2, hq2] at K1
    refine hg_cVv d_M_doors_54 l_M_132 rfl rfl (hX.lt (n := 1) ⟨by decide, by decide⟩ rfl (by omega)) rfl (Nat.le_of_ble_eq_true rfl) (K1) rfl ?_
    rintro _ ⟨I2, rfl, hM2, hk2⟩
    have hg2 : hs_MG (hs_chg σ p q) a0 a2 a4 I2 := hg.n hM2 (hk_r.n hk2 (by decide))
    have hO2 := hO.chg hp hq
    have hs2 := (hk_r.n hk2 (by decide)).s.tr hs
    refine hg_aload0 d_M_doors_57 ?_
    refine hg_iload1 d_M_doors_58 ?_
    refine hg_cVi d_M_doors_59 l_M_270 rfl rfl (hX.lt (n := 1) ⟨by decide, by decide⟩ rfl (by omega)) rfl (Nat.le_of_ble_eq_true rfl) (m_M_clashesBehind (tw := tw) hX hR hO2 hw (hT.s hs2) hm hg2 hb) rfl ?_
    rintro _ _ ⟨rfl, I3, rfl, hg3, hs3⟩
    obtain ⟨hO4, hw4, hn4, -⟩ := hs_th_all (tw := tw) hO2 m
    have hcl4 := hO4.2.2.2.2.2.2.1
    have hwk3 : hs_wk (hs_chg σ p q) = hs_wk σ := rfl
    refine hg_istore6 d_M_doors_62 rfl ?_
    refine hg_aload0 d_M_doors_64 ?_
    refine hg_iload4 d_M_doors_65 ?_
    refine hg_iload5 d_M_doors_67 ?_
    obtain ⟨hp3, hp4⟩ := hs_plc_ok hO2 (show p < hs_n (hs_chg σ p q) from hp)
    obtain ⟨hq3, hq4⟩ := hs_plc_ok hO2 (show q < hs_n (hs_chg σ p q) from hq)
    have K2 := m_M_swaps (l := l) (E := E) (d := d + 6) (Lg := Lg) hX hR hg3.1 hO2 hp3 hq3
    rw [hp4, hq4] at K2
    refine hg_cVv d_M_doors_69 l_M_132 rfl rfl (hX.lt (n := 1) ⟨by decide, by decide⟩ rfl (by omega)) rfl (Nat.le_of_ble_eq_true rfl) (K2) rfl ?_
    rintro _ ⟨I4, rfl, hM4, hk4⟩
    have hM5 : hs_MS σ I4 := hs_MS.sq (σ := σ) (s2 := hs_st (hs_chg (hs_chg σ p q) p q)) hM4 (hs_chg2 hO hp hq (by omega))
    have hg4 : hs_MG σ a0 a2 a4 I4 := hg3.n hM5 (hk_r.n hk4 (by decide))
    have hs4 := (hk_r.n hk4 (by decide)).s.tr (hs3.tr hs2)
    refine hg_iload6 d_M_doors_72 ?_
    refine hg_iload2 d_M_doors_74 ?_
    refine hg_icmp_lt (tgt := 81) d_M_doors_75 (by decide) (fun hle => ?_) (fun hle => ?_)
    · refine hg_iload6 d_M_doors_81 ?_
      refine hg_istore2 d_M_doors_83 rfl ?_
      refine hg_bipush (v := 10) d_M_doors_84 (by decide) ?_
      refine hg_iload4 d_M_doors_86 ?_
      refine hg_imul d_M_doors_88 ?_
      refine hg_eq1 (y := nI (10 * p)) (pk_mul _ _) ?_
      refine hg_iload5 d_M_doors_89 ?_
      refine hg_iadd d_M_doors_91 ?_
      refine hg_eq1 (y := nI ((10 * p) + q)) (nI_add _ _) ?_
      refine hg_istore3 d_M_doors_92 rfl ?_
      refine hg_iinc5 (v := nI (q + 1)) d_M_doors_93 rfl (nI_add _ _) ?_
      refine hg_goto (tgt := 40) d_M_doors_96 (by decide) ?_
      have he0 : sp_d0 tw σ m p q a = (hs_cl (hs_th tw (hs_chg σ p q) m), nI (10 * p + q)) := if_pos ((nI_ltI (by omega) (by omega)).mp hle)
      exact ih (q + 1) (hs_cl (hs_th tw (hs_chg σ p q) m), nI (10 * p + q)) _ I4 (by omega) (by omega) (by first | assumption | (show hs_cl _ < 2 ^ 31; omega)) hg4 hs4 (by have := he; unfold sp_d2 at this; rwa [he0] at this)
    · refine hg_goto (tgt := 93) d_M_doors_78 (by decide) ?_
      refine hg_iinc5 (v := nI (q + 1)) d_M_doors_93 rfl (nI_add _ _) ?_
      refine hg_goto (tgt := 40) d_M_doors_96 (by decide) ?_
      have he0 : sp_d0 tw σ m p q a = a := if_neg (fun z => hle ((nI_ltI (by omega) (by omega)).mpr z))
      exact ih (q + 1) (a) _ I4 (by omega) (by omega) (by first | assumption | (show hs_cl _ < 2 ^ 31; omega)) hg4 hs4 (by have := he; unfold sp_d2 at this; rwa [he0] at this)
theorem m_M_doors_loop {m : Nat} {w : Int32} (hX : hg_XS T X) (hR : hg_SR T Rf) (hO : hs_ok T σ) (hw : hs_wk σ ≤ 9999) (hT : hs_MT T tw I) (hb : hs_Lb σ a0 a2 a4) (hm : m ≤ 60) : ∀ (k p : Nat) (a : Nat × Int32) (a5 a6 : Option Value) (I1 : Nat → Nat → Nat → Int32), p + k = hs_n σ → a.1 < 2 ^ 31 → hs_MG σ a0 a2 a4 I1 → hm_s I1 I → (sp_d1 tw σ m k p a).2 = w → hg_WP l E (d + 8) Y_M_doors 0 0 25 [some (.ref (hg_ad E 21 0)), some (.int (nI m)), some (.int (nI a.1)), some (.int a.2), some (.int (nI p)), a5, a6] [] (I1, Lg, Rf, X) (hg_i (fun v M' => v = w ∧ ∃ I' : Nat → Nat → Nat → Int32, M' = (I', Lg, Rf, X) ∧ hs_MG σ a0 a2 a4 I' ∧ hm_s I' I)) := by
  have hn6 := hO.1
  intro k
  induction k with
  | zero =>
    intro p a a5 a6 I1 hpk ha hg hs he
    obtain rfl : p = hs_n σ := by omega
    refine hg_iload4 d_M_doors_25 ?_
    refine hg_aload0 d_M_doors_27 ?_
    refine hg_getI d_M_doors_28 f_M_108 rfl rfl (hX.lt (n := 1) ⟨by decide, by decide⟩ rfl (by omega)) ?_
    refine hg_eq1 (y := nI (hs_n σ)) (hg.1.1) ?_
    refine hg_icmp_ge (tgt := 105) d_M_doors_31 (by decide) (fun h_1 => ?_) (fun h_1 => absurd (Int32.le_refl _) h_1)
    refine hg_iload3 d_M_doors_105 ?_
    refine hg_ireturn d_M_doors_106 rfl rfl ?_
    exact ⟨he, I1, rfl, hg, hs⟩
  | succ k ih =>
    intro p a a5 a6 I1 hpk ha hg hs he
    refine hg_iload4 d_M_doors_25 ?_
    refine hg_aload0 d_M_doors_27 ?_
    refine hg_getI d_M_doors_28 f_M_108 rfl rfl (hX.lt (n := 1) ⟨by decide, by decide⟩ rfl (by omega)) ?_
    refine hg_eq1 (y := nI (hs_n σ)) (hg.1.1) ?_
    refine hg_icmp_ge (tgt := 105) d_M_doors_31 (by decide) (fun h_2 => absurd h_2 (nI_ge (by omega) (by omega))) (fun h_2 => ?_)
    refine hg_iload4 d_M_doors_34 ?_
    refine hg_iconst (v := 1) d_M_doors_36 (by decide) ?_
    refine hg_iadd d_M_doors_37 ?_
    refine hg_eq1 (y := nI (p + 1)) (nI_add _ _) ?_
    refine hg_istore5 d_M_doors_38 rfl ?_
    exact m_M_doors_in hX hR hO hw hT hb hm (by omega) (sp_d2 tw σ m p k (p + 1) a) (fun b6 I2 hg2 hs2 hr1 => ih (p + 1) _ _ _ I2 (by omega) hr1 hg2 hs2 he) k (p + 1) a _ I1 (by omega) (by omega) ha hg hs rfl
theorem m_M_in1 {x : Int32} : hg_MC l E (d + 1) Y_M_within 0 0 [.int x, .int 1, .int 20] (I, Lg, Rf, X) (hg_i (hg_bo (∃ j : Nat, 0 < j ∧ j ≤ 20 ∧ x = nI j) (I, Lg, Rf, X))) := by
  have e : (1 ≤ x ∧ x ≤ 20) ↔ ∃ j : Nat, 0 < j ∧ j ≤ 20 ∧ x = nI j :=
    ⟨fun ⟨h1, h2⟩ => hg_in1 (b := 20) (by decide) (Int32.not_lt.mpr h1) h2, fun ⟨j, h0, h1, h2⟩ => by rw [h2]; exact ⟨nI_le (a := 1) h0 (by omega), nI_le (b := 20) h1 (by decide)⟩⟩
  refine m_M_within.imp ?_
  rintro _ _ ⟨v, rfl, h, rfl⟩
  exact ⟨v, rfl, h.imp (fun q => ⟨e.mp q.1, q.2⟩) (fun q => ⟨fun z => q.1 (e.mpr z), q.2⟩), rfl⟩
theorem m_M_doors {n : Int32} (hX : hg_XS (gT G) X) (hR : hg_SR (gT G) Rf) (hM0 : hs_MR G I Lg) (hG : hs_gok G) : hg_MC l E (d + 9) Y_M_doors 0 0 [.ref (hg_ad E 21 0), .int n] (I, Lg, Rf, X) (hg_i (fun v M' => hs_MP v (sp_doors (gW G) (gN G) n) G I Lg Rf X M')) := by
  have hM := hM0.1.1
  have hO := hG.1
  have hn6 := hO.1
  have hT := hM0.2.2.2.2.2.2.2
  have hw := hG.2.1
  have hL0 := hG.2.2.2.1 0 (by decide)
  have hL2 := hG.2.2.2.1 2 (by decide)
  have hL4 := hG.2.2.2.1 4 (by decide)
  replace hL0 : (gL G 0).1 ≤ 5 := hL0
  replace hL2 : (gL G 2).1 ≤ 10 := hL2
  replace hL4 : (gL G 4).1 ≤ 8 := hL4
  have hLb : hs_Lb (gN G) (gL G 0) (gL G 2) (gL G 4) := ⟨hn6, hL0, hL2, hL4⟩
  refine hg_mc k_M_doors (Nat.le_of_ble_eq_true rfl) ?_
  show hg_WP l E _ Y_M_doors 0 0 0 [some (.ref (hg_ad E 21 0)), some (.int n), none, none, none, none, none] [] (I, Lg, Rf, X) _
  refine hg_iload1 d_M_doors_0 ?_
  refine hg_iconst (v := 1) d_M_doors_1 (by decide) ?_
  refine hg_bipush (v := 20) d_M_doors_2 (by decide) ?_
  refine hg_cSi d_M_doors_4 l_M_111 rfl (Nat.le_of_ble_eq_true rfl) (m_M_in1) rfl ?_
  rintro _ _ ⟨⟨ha, rfl⟩ | ⟨ha, rfl⟩, rfl⟩
  · obtain ⟨m, hm0, hm, em⟩ := ha
    subst em
    show hg_WP l E _ Y_M_doors 0 0 7 [some (.ref (hg_ad E 21 0)), some (.int (nI m)), none, none, none, none, none] [.int 1] (I, Lg, Rf, X) _
    have hsp : sp_doors (gW G) (gN G) (nI m) = (sp_d1 (gW G) (gN G) m (hs_n (gN G)) 0 (hs_cl (hs_th (gW G) (gN G) m), -5)).2 := by unfold sp_doors; rw [hs_ix_s (by omega) (by decide)]; exact if_neg (by omega)
    refine hg_if_ne (tgt := 13) d_M_doors_7 (by decide) (fun h_1 => ?_) (fun h_1 => absurd (by decide) h_1)
    refine hg_aload0 d_M_doors_13 ?_
    refine hg_iload1 d_M_doors_14 ?_
    refine hg_cVi d_M_doors_15 l_M_270 rfl rfl (hX.lt (n := 1) ⟨by decide, by decide⟩ rfl (by omega)) rfl (Nat.le_of_ble_eq_true rfl) (m_M_clashesBehind (tw := gW G) hX hR hO hw hT (by omega) hM0.1 hLb) rfl ?_
    rintro _ _ ⟨rfl, I3, rfl, hg3, hs3⟩
    obtain ⟨hO4, hw4, hn4, -⟩ := hs_th_all (tw := gW G) hO m
    have hcl4 := hO4.2.2.2.2.2.2.1
    refine hg_istore2 d_M_doors_18 rfl ?_
    refine hg_bipush (v := (-5)) d_M_doors_19 (by decide) ?_
    refine hg_istore3 d_M_doors_21 rfl ?_
    refine hg_iconst (v := 0) d_M_doors_22 (by decide) ?_
    refine hg_istore4 d_M_doors_23 rfl ?_
    rw [hsp]
    refine hg_WP_imp (m_M_doors_loop hX hR hO hw hT hLb (show m ≤ 60 by omega) (hs_n (gN G)) 0 (hs_cl (hs_th (gW G) (gN G) m), -5) _ _ I3 (by omega) (by show hs_cl _ < 2 ^ 31; omega) hg3 hs3 rfl) ?_
    rintro _ _ ⟨v, rfl, e, I4, rfl, hg4, hs4⟩; exact ⟨v, rfl, e, I4, Lg, rfl, hM0.Z hg4 hs4, hs4.lo, fun _ _ => rfl⟩
  · refine hg_if_ne (tgt := 13) d_M_doors_7 (by decide) (fun h_2 => absurd h_2 (by decide)) (fun h_2 => ?_)
    refine hg_bipush (v := (-2)) d_M_doors_10 (by decide) ?_
    refine hg_ireturn d_M_doors_12 rfl rfl ?_
    refine ⟨?_, I, Lg, rfl, hM0, fun _ _ => rfl, fun _ _ => rfl⟩
    unfold sp_doors; cases z : hs_ix 21 n with
    | none => rfl
    | some m => show _ = (if m = 0 then _ else _); rw [if_pos (Classical.byContradiction fun y => ha ⟨m, by omega, by have := (hs_ix_of z).1; omega, (hs_ix_of z).2⟩)]

theorem m_M_part_loop {a b q : Nat} (ha : a < 2 ^ 31) (hb : b < 2 ^ 31) (h0 : 0 < a ∨ 0 < b) : ∀ (n x y : Nat) (a9 a10 : Option Value), y ≤ n → x < 2 ^ 31 → y < 2 ^ 31 → Nat.gcd y x = (Nat.gcd a b) → hg_WP l E (d) Y_M_part 0 0 6 [some (.long (lN a)), none, some (.long (lN b)), none, some (.int (nI q)), some (.long (lN x)), none, some (.long (lN y)), none, a9, a10] [] (I, Lg, Rf, X) (hg_l (fun v M' => v = (if nI q = 0 then lN (a / (Nat.gcd a b)) else lN (b / (Nat.gcd a b))) ∧ M' = (I, Lg, Rf, X))) := by
  have hg0 : 0 < (Nat.gcd a b) := h0.elim (fun z => Nat.gcd_pos_of_pos_left _ z) (fun z => Nat.gcd_pos_of_pos_right _ z)
  have hg1 : (Nat.gcd a b) < 2 ^ 31 := h0.elim (fun z => Nat.lt_of_le_of_lt (Nat.gcd_le_left _ z) ha) (fun z => Nat.lt_of_le_of_lt (Nat.gcd_le_right _ z) hb)
  have hne : ∀ g : Nat, g = (Nat.gcd a b) → ¬ lN g = 0 := fun g e z => by
    have := (lN_eq (b := 0) (by omega) (by decide)).mp z; omega
  intro n
  induction n with
  | zero =>
    intro x y a9 a10 hyn hx hy hg
    obtain rfl : y = 0 := by omega
    obtain rfl : x = (Nat.gcd a b) := by rw [← hg, Nat.gcd_zero_left]
    refine hg_lload7 d_M_part_6 ?_
    refine hg_lconst (v := 0) d_M_part_8 (by decide) ?_
    refine hg_lcmp d_M_part_9 ?_
    refine hg_if_eq (tgt := 31) d_M_part_10 (by decide) (fun h_1 => ?_) (fun h_1 => absurd ((hs_lcmp _ _).mpr rfl) h_1)
    refine hg_iload4 d_M_part_31 ?_
    refine hg_if_ne (tgt := 43) d_M_part_33 (by decide) (fun hq0 => ?_) (fun hq0 => ?_)
    · refine hg_lload2 d_M_part_43 ?_
      refine hg_lload5 d_M_part_44 ?_
      refine hg_ldiv d_M_part_46 (hne _ rfl) ?_
      refine hg_lreturn d_M_part_47 rfl ?_
      refine ⟨?_, rfl⟩
      rw [if_neg hq0]; exact pk_lDiv (by omega) hg0 (by omega)
    · replace hq0 := Decidable.not_not.mp hq0
      refine hg_lload0 d_M_part_36 ?_
      refine hg_lload5 d_M_part_37 ?_
      refine hg_ldiv d_M_part_39 (hne _ rfl) ?_
      refine hg_goto (tgt := 47) d_M_part_40 (by decide) ?_
      refine hg_lreturn d_M_part_47 rfl ?_
      refine ⟨?_, rfl⟩
      rw [if_pos hq0]; exact pk_lDiv (by omega) hg0 (by omega)
  | succ n ih =>
    intro x y a9 a10 hyn hx hy hg
    rcases Nat.eq_zero_or_pos y with z | z
    · subst z
      exact ih x 0 a9 a10 (Nat.zero_le _) hx hy hg
    · refine hg_lload7 d_M_part_6 ?_
      refine hg_lconst (v := 0) d_M_part_8 (by decide) ?_
      refine hg_lcmp d_M_part_9 ?_
      refine hg_if_eq (tgt := 31) d_M_part_10 (by decide) (fun h_2 => absurd h_2 (fun e => by have := (lN_eq (b := 0) hy (by decide)).mp ((hs_lcmp _ _).mp e); omega)) (fun h_2 => ?_)
      refine hg_lload5 d_M_part_13 ?_
      refine hg_lload7 d_M_part_15 ?_
      refine hg_lrem d_M_part_17 (fun e => by have := (lN_eq (b := 0) hy (by decide)).mp e; omega) ?_
      refine hg_lstore9 d_M_part_18 rfl ?_
      refine hg_lload7 d_M_part_20 ?_
      refine hg_lstore5 d_M_part_22 rfl ?_
      refine hg_lload9 d_M_part_24 ?_
      refine hg_lstore7 d_M_part_26 rfl ?_
      refine hg_goto (tgt := 6) d_M_part_28 (by decide) ?_
      rw [pk_lRem (a := x) (b := y) (by omega) z (by omega)]
      exact ih y (x % y) _ _ (by have := Nat.mod_lt x z; omega) hy (by have := Nat.mod_lt x z; omega) (by rw [← Nat.gcd_rec]; exact hg)
theorem m_M_part {a b q : Nat} (ha : a < 2 ^ 31) (hb : b < 2 ^ 31) (h0 : 0 < a ∨ 0 < b) : hg_MC l E (d + 1) Y_M_part 0 0 [.long (lN a), .long (lN b), .int (nI q)] (I, Lg, Rf, X) (hg_l (fun v M' => v = (if nI q = 0 then lN (a / (Nat.gcd a b)) else lN (b / (Nat.gcd a b))) ∧ M' = (I, Lg, Rf, X))) := by
  refine hg_mc k_M_part (Nat.le_of_ble_eq_true rfl) ?_
  show hg_WP l E _ Y_M_part 0 0 0 [some (.long (lN a)), none, some (.long (lN b)), none, some (.int (nI q)), none, none, none, none, none, none] [] (I, Lg, Rf, X) _
  refine hg_lload0 d_M_part_0 ?_
  refine hg_lstore5 d_M_part_1 rfl ?_
  refine hg_lload2 d_M_part_3 ?_
  refine hg_lstore7 d_M_part_4 rfl ?_
  exact m_M_part_loop ha hb h0 b a b _ _ (Nat.le_refl _) ha hb (Nat.gcd_comm _ _)

end M39
