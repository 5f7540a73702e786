/-! the model: pass, on, of, doors -/
section M37
variable {l : Launch} {E : hg_E} {d T : Nat}
variable {I : Nat → Nat → Nat → Int32} {Lg : Nat → Nat → Nat → Int64} {Rf : Nat → Nat → Nat → Option (Nat × Nat)} {X : Nat × (Nat → Nat) × (Nat → Nat → Nat)}
variable {I' I1 : Nat → Nat → Nat → Int32} {Lg' : Nat → Nat → Nat → Int64} {σ τ : hs_S} {tw : hs_W} {a0 a2 a4 : hs_L} {G : hs_G}
theorem hg_u3e {α : Type} {f : Nat → Nat → Nat → α} {k i j : Nat} {x : α} (h : f k i j = x) : hg_u3 f k i j x = f := by
  funext a b c; unfold hg_u3; split
  · rename_i z; rw [z.1, z.2.1, z.2.2]; exact h.symm
  · rfl
theorem hs_ix_neg {n : Nat} {x : Int32} (hn : n ≤ 2 ^ 30) (h : x < 0) : hs_ix n x = none := hs_ix_n (fun ⟨k, hk, e⟩ => by
  have h := Int32.lt_iff_toInt_lt.mp h
  rw [e, nI_toInt (by omega), show (0 : Int32).toInt = 0 from rfl] at h; omega)
theorem hs_h5_eq {o : Option Nat} {h : Nat} (ho : ∀ x, o = some x → x < 6) (hh : h < 6) : hs_h5 o = nI h ↔ o = some h := by
  cases o with
  | none => exact ⟨fun z => absurd z (by
      intro z
      have z : (-5 : Int32) = nI h := z
      have := congrArg Int32.toInt z; rw [nI_toInt (by omega)] at this; exact absurd this (by rw [show (-5 : Int32).toInt = -5 by decide]; omega)), fun z => by cases z⟩
  | some x => exact ⟨fun z => congrArg some ((nI_eq (by have := ho x rfl; omega) (by omega)).mp z), fun z => by cases z; rfl⟩
theorem hs_MT.e3 {T : Nat} (h : hs_MT T tw I) (e : hm_s I' I) : hs_MT T tw I' := h.s e
theorem m_M_held {j : Nat} (hj : j ≤ 9999) : hg_MC l E (d + 1) Y_M_held 0 0 [.int (nI j)] (I, Lg, Rf, X) (hg_i (fun v M' => v = nI j ∧ M' = (I, Lg, Rf, X))) := by
  refine hg_mc k_M_held (Nat.le_of_ble_eq_true rfl) ?_
  show hg_WP l E _ Y_M_held 0 0 0 [some (.int (nI j))] [] (I, Lg, Rf, X) _
  refine hg_sipush (v := 9999) d_M_held_0 (by decide) ?_
  refine hg_iload0 d_M_held_3 ?_
  refine hg_min d_M_held_4 l_M_228 (Nat.le_of_ble_eq_true rfl) ?_
  refine hg_eq1 (y := nI j) ((hm_min (n := j) (b := 9999) (by decide) (by omega)).trans (by rw [Nat.min_eq_left hj])) ?_
  refine hg_ireturn d_M_held_7 rfl rfl ?_
  exact ⟨rfl, rfl⟩

theorem m_M_pass_in {m i : Nat} {Q : Option Value → hg_M → Prop} (hX : hg_XS T X) (hR : hg_SR T Rf) (hM : hs_MS τ I) (hO : hs_ok T τ) (hw : hs_wk τ ≤ 9999) (K : hg_WP l E (d + 7) Y_M_pass 0 0 92 [some (.ref (hg_ad E 21 0)), some (.int (nI m)), some (.int (nI i)), some (.int (nI (hs_n τ)))] [] (I, Lg, Rf, X) (Q)) : ∀ (r p : Nat), p + r = hs_n τ → hg_WP l E (d + 7) Y_M_pass 0 0 63 [some (.ref (hg_ad E 21 0)), some (.int (nI m)), some (.int (nI i)), some (.int (nI p))] [] (I, Lg, Rf, X) (Q) := by
  have hn6 := hO.1
  intro r
  induction r with
  | zero =>
    intro p hpr
    obtain rfl : p = hs_n τ := by omega
    refine hg_iload3 d_M_pass_63 ?_
    refine hg_aload0 d_M_pass_64 ?_
    refine hg_getI d_M_pass_65 f_M_108 rfl rfl (hX.lt (n := 1) ⟨by decide, by decide⟩ rfl (by omega)) ?_
    refine hg_eq1 (y := nI (hs_n τ)) (hM.1) ?_
    refine hg_icmp_ge (tgt := 92) d_M_pass_68 (by decide) (fun h_1 => ?_) (fun h_1 => absurd (Int32.le_refl _) h_1)
    exact K
  | succ r ih =>
    intro p hpr
    obtain ⟨k, hk, ek⟩ := (hO.2.2.2.2.1 p (by omega)).2.1
    have ek2 : I 22 4 p = nI k := (hM.2.2.2.2.2.2.2.1 p 4 (by omega) (by decide)).trans ek
    refine hg_iload3 d_M_pass_63 ?_
    refine hg_aload0 d_M_pass_64 ?_
    refine hg_getI d_M_pass_65 f_M_108 rfl rfl (hX.lt (n := 1) ⟨by decide, by decide⟩ rfl (by omega)) ?_
    refine hg_eq1 (y := nI (hs_n τ)) (hM.1) ?_
    refine hg_icmp_ge (tgt := 92) d_M_pass_68 (by decide) (fun h_2 => absurd h_2 (nI_ge (by omega) (by omega))) (fun h_2 => ?_)
    refine hg_aload0 d_M_pass_71 ?_
    refine hg_getR d_M_pass_72 f_M_24 rfl rfl (hX.lt (n := 1) ⟨by decide, by decide⟩ rfl (by omega)) (hR.m (j := 5) (q := (22, 4)) rfl) ?_
    refine hg_iload3 d_M_pass_75 ?_
    refine hg_aload0 d_M_pass_76 ?_
    refine hg_getR d_M_pass_77 f_M_24 rfl rfl (hX.lt (n := 1) ⟨by decide, by decide⟩ rfl (by omega)) (hR.m (j := 5) (q := (22, 4)) rfl) ?_
    refine hg_iload3 d_M_pass_80 ?_
    refine hg_iald_n (j := p) d_M_pass_81 rfl rfl (hX.lt (n := 28) ⟨by decide, by decide⟩ rfl (by omega)) (hX.jn (n := 6) (by decide) rfl (by omega)) ?_
    refine hg_eq1 (y := nI k) (ek2) ?_
    refine hg_cSi d_M_pass_82 l_M_260 rfl (Nat.le_of_ble_eq_true rfl) (m_M_held (show k ≤ 9999 by omega)) rfl ?_
    rintro _ _ ⟨rfl, rfl⟩
    refine hg_iast_n (j := p) d_M_pass_85 rfl rfl (hX.lt (n := 28) ⟨by decide, by decide⟩ rfl (by omega)) (hX.jn (n := 6) (by decide) rfl (by omega)) ?_
    rw [hg_u3e ek2]
    refine hg_iinc3 (v := nI (p + 1)) d_M_pass_86 rfl (nI_add _ _) ?_
    refine hg_goto (tgt := 63) d_M_pass_89 (by decide) ?_
    exact ih (p + 1) (by omega)
theorem m_M_pass_out {m : Nat} {Q : Option Value → hg_M → Prop} (hX : hg_XS T X) (hR : hg_SR T Rf) (hO : hs_ok T σ) (hw : hs_wk σ ≤ 9999) (hT : hs_MT T tw I) (hm : hs_wk σ + m ≤ 9999) (K : ∀ (I2 : Nat → Nat → Nat → Int32) (a3 : Option Value), hs_MS (hs_th tw σ m) I2 → hm_t I2 I → hg_WP l E (d + 7) Y_M_pass 0 0 98 [some (.ref (hg_ad E 21 0)), some (.int (nI m)), some (.int (nI m)), a3] [] (I2, Lg, Rf, X) (Q)) : ∀ (k i : Nat) (a3 : Option Value) (I1 : Nat → Nat → Nat → Int32), i + k = m → hs_MS (hs_th tw σ i) I1 → hm_t I1 I → hg_WP l E (d + 7) Y_M_pass 0 0 30 [some (.ref (hg_ad E 21 0)), some (.int (nI m)), some (.int (nI i)), a3] [] (I1, Lg, Rf, X) (Q) := by
  intro k
  induction k with
  | zero =>
    intro i a3 I1 hik hM ht
    obtain rfl : i = m := by omega
    refine hg_iload2 d_M_pass_30 ?_
    refine hg_iload1 d_M_pass_31 ?_
    refine hg_icmp_ge (tgt := 98) d_M_pass_32 (by decide) (fun h_1 => ?_) (fun h_1 => absurd (Int32.le_refl _) h_1)
    exact K I1 _ hM ht
  | succ k ih =>
    intro i a3 I1 hik hM ht
    obtain ⟨hO2, hw2, hn2, hs2⟩ := hs_th_all (tw := tw) hO i
    obtain ⟨hO3, hw3, -, -⟩ := hs_th_all (tw := tw) hO (i + 1)
    have hh3 := hO3.2.2.2.2.2.1
    have hh4 := hO3.2.2.2.2.2.2.1
    refine hg_iload2 d_M_pass_30 ?_
    refine hg_iload1 d_M_pass_31 ?_
    refine hg_icmp_ge (tgt := 98) d_M_pass_32 (by decide) (fun h_2 => absurd h_2 (nI_ge (by omega) (by omega))) (fun h_2 => ?_)
    refine hg_aload0 d_M_pass_35 ?_
    refine hg_cVv d_M_pass_36 l_M_257 rfl rfl (hX.lt (n := 1) ⟨by decide, by decide⟩ rfl (by omega)) rfl (Nat.le_of_ble_eq_true rfl) (m_M_goesThursday hX hR hM hO2 (hT.t ht) (by omega)) rfl ?_
    rintro _ ⟨I2, rfl, hM2, ht2⟩
    replace hM2 : hs_MS (hs_th tw σ (i + 1)) I2 := hM2
    refine hg_aload0 d_M_pass_39 ?_
    refine hg_aload0 d_M_pass_40 ?_
    refine hg_getI d_M_pass_41 f_M_248 rfl rfl (hX.lt (n := 1) ⟨by decide, by decide⟩ rfl (by omega)) ?_
    refine hg_eq1 (y := nI (hs_hu (hs_th tw σ (i + 1)))) (hM2.2.2.1) ?_
    refine hg_cSi d_M_pass_44 l_M_260 rfl (Nat.le_of_ble_eq_true rfl) (m_M_held (show hs_hu (hs_th tw σ (i + 1)) ≤ 9999 by omega)) rfl ?_
    rintro _ _ ⟨rfl, rfl⟩
    refine hg_putI d_M_pass_47 f_M_248 rfl rfl (Or.inl rfl) rfl rfl (hX.lt (n := 1) ⟨by decide, by decide⟩ rfl (by omega)) ?_
    rw [hg_u3e hM2.2.2.1]
    refine hg_aload0 d_M_pass_50 ?_
    refine hg_aload0 d_M_pass_51 ?_
    refine hg_getI d_M_pass_52 f_M_251 rfl rfl (hX.lt (n := 1) ⟨by decide, by decide⟩ rfl (by omega)) ?_
    refine hg_eq1 (y := nI (hs_cl (hs_th tw σ (i + 1)))) (hM2.2.2.2.1) ?_
    refine hg_cSi d_M_pass_55 l_M_260 rfl (Nat.le_of_ble_eq_true rfl) (m_M_held (show hs_cl (hs_th tw σ (i + 1)) ≤ 9999 by omega)) rfl ?_
    rintro _ _ ⟨rfl, rfl⟩
    refine hg_putI d_M_pass_58 f_M_251 rfl rfl (Or.inl rfl) rfl rfl (hX.lt (n := 1) ⟨by decide, by decide⟩ rfl (by omega)) ?_
    rw [hg_u3e hM2.2.2.2.1]
    refine hg_iconst (v := 0) d_M_pass_61 (by decide) ?_
    refine hg_istore3 d_M_pass_62 rfl ?_
    refine m_M_pass_in hX hR hM2 hO3 (by omega) ?_ _ 0 (Nat.zero_add _)
    refine hg_iinc2 (v := nI (i + 1)) d_M_pass_92 rfl (nI_add _ _) ?_
    refine hg_goto (tgt := 30) d_M_pass_95 (by decide) ?_
    exact ih (i + 1) _ I2 (by omega) hM2 (ht2.tr ht)
theorem m_M_pass {x : Int32} (hX : hg_XS (gT G) X) (hR : hg_SR (gT G) Rf) (hM0 : hs_MR G I Lg) (hG : hs_gok G) : hg_MC l E (d + 8) Y_M_pass 0 0 [.ref (hg_ad E 21 0), .int x] (I, Lg, Rf, X) (hg_i (fun v M' => hs_MP v (so_pass G x).1 (so_pass G x).2 I Lg Rf X M')) := by
  have hM := hM0.1.1
  have hO := hG.1
  have hn6 := hO.1
  have hT := hM0.2.2.2.2.2.2.2
  have hw := hG.2.1
  refine hg_mc k_M_pass (Nat.le_of_ble_eq_true rfl) ?_
  show hg_WP l E _ Y_M_pass 0 0 0 [some (.ref (hg_ad E 21 0)), some (.int x), none, none] [] (I, Lg, Rf, X) _
  refine hg_iload1 d_M_pass_0 ?_
  refine hg_iconst (v := 0) d_M_pass_1 (by decide) ?_
  refine hg_bipush (v := 60) d_M_pass_2 (by decide) ?_
  refine hg_cSi d_M_pass_4 l_M_111 rfl (Nat.le_of_ble_eq_true rfl) (m_M_in0 (b := 60) (by decide)) rfl ?_
  rintro _ _ ⟨⟨hha, rfl⟩ | ⟨hha, rfl⟩, rfl⟩
  · obtain ⟨m, hm, em⟩ := hha
    have iha : hs_ix 61 x = some m := by rw [em]; exact hs_ix_s (by omega) (by decide)
    subst em
    show hg_WP l E _ Y_M_pass 0 0 7 [some (.ref (hg_ad E 21 0)), some (.int (nI m)), none, none] [.int 1] (I, Lg, Rf, X) _
    refine hg_if_ne (tgt := 13) d_M_pass_7 (by decide) (fun h_1 => ?_) (fun h_1 => absurd (by decide) h_1)
    refine hg_aload0 d_M_pass_13 ?_
    refine hg_getI d_M_pass_14 f_M_214 rfl rfl (hX.lt (n := 1) ⟨by decide, by decide⟩ rfl (by omega)) ?_
    refine hg_eq1 (y := nI (hs_wk (gN G))) (hM.2.2.2.2.1) ?_
    refine hg_iload1 d_M_pass_17 ?_
    refine hg_iadd d_M_pass_18 ?_
    refine hg_eq1 (y := nI ((hs_wk (gN G)) + m)) (nI_add _ _) ?_
    refine hg_sipush (v := 9999) d_M_pass_19 (by decide) ?_
    refine hg_icmp_le (tgt := 28) d_M_pass_22 (by decide) (fun hl => ?_) (fun hl => ?_)
    · have hln : ¬ 9999 < hs_wk (gN G) + m := fun z => nI_ge (a := 9999) (b := hs_wk (gN G) + m) z (by omega) hl
      refine hg_iconst (v := 0) d_M_pass_28 (by decide) ?_
      refine hg_istore2 d_M_pass_29 rfl ?_
      refine m_M_pass_out (d := d) hX hR hO hw hT (by omega) ?_ m 0 _ I (Nat.zero_add _) hM hm_t.rf
      intro I2 a3 hM2 ht2
      refine hg_aload0 d_M_pass_98 ?_
      refine hg_getI d_M_pass_99 f_M_214 rfl rfl (hX.lt (n := 1) ⟨by decide, by decide⟩ rfl (by omega)) ?_
      refine hg_eq1 (y := nI (hs_wk (gN G) + m)) (hM2.2.2.2.2.1.trans (congrArg nI (hs_th_all (tw := gW G) hO m).2.1)) ?_
      refine hg_ireturn d_M_pass_102 rfl rfl ?_
      have hz : so_pass G (nI m) = (nI (hs_wk (gN G) + m), gsN G (hs_th (gW G) (gN G) m)) := by simp [so_pass, iha, hln]
      rw [hz]
      exact ⟨rfl, _, Lg, rfl, hM0.N hM2 ht2.n, ht2.s.lo, fun _ _ => rfl⟩
    · have hly : 9999 < hs_wk (gN G) + m := Nat.lt_of_not_le (fun z => hl (nI_le (a := hs_wk (gN G) + m) (b := 9999) z (by decide)))
      refine hg_bipush (v := (-3)) d_M_pass_25 (by decide) ?_
      refine hg_ireturn d_M_pass_27 rfl rfl ?_
      have hz : so_pass G (nI m) = (-3, G) := by simp [so_pass, iha, hly]
      rw [hz]
      exact ⟨rfl, I, Lg, rfl, hM0, fun _ _ => rfl, fun _ _ => rfl⟩
  · have iha : hs_ix 61 x = none := hs_ix_n2 hha
    refine hg_if_ne (tgt := 13) d_M_pass_7 (by decide) (fun h_2 => absurd h_2 (by decide)) (fun h_2 => ?_)
    refine hg_bipush (v := (-2)) d_M_pass_10 (by decide) ?_
    refine hg_ireturn d_M_pass_12 rfl rfl ?_
    have hz : so_pass G x = (-2, G) := by simp [so_pass, iha]
    rw [hz]
    exact ⟨rfl, I, Lg, rfl, hM0, fun _ _ => rfl, fun _ _ => rfl⟩

theorem m_M_cb_go {m : Nat} {Q : Option Value → hg_M → Prop} (hX : hg_XS T X) (hR : hg_SR T Rf) (hO : hs_ok T σ) (hw : hs_wk σ ≤ 9999) (hT : hs_MT T tw I) (hm : m ≤ 60) (K : ∀ I2 : Nat → Nat → Nat → Int32, hs_MS (hs_th tw σ m) I2 → hm_t I2 I → hg_WP l E (d + 7) Y_M_clashesBehind 0 0 25 [some (.ref (hg_ad E 21 0)), some (.int (nI m)), some (.int (nI m))] [] (I2, Lg, Rf, X) (Q)) : ∀ (k i : Nat) (I1 : Nat → Nat → Nat → Int32), i + k = m → hs_MS (hs_th tw σ i) I1 → hm_t I1 I → hg_WP l E (d + 7) Y_M_clashesBehind 0 0 10 [some (.ref (hg_ad E 21 0)), some (.int (nI m)), some (.int (nI i))] [] (I1, Lg, Rf, X) (Q) := by
  intro k
  induction k with
  | zero =>
    intro i I1 hik hM ht
    obtain rfl : i = m := by omega
    refine hg_iload2 d_M_clashesBehind_10 ?_
    refine hg_iload1 d_M_clashesBehind_11 ?_
    refine hg_icmp_ge (tgt := 25) d_M_clashesBehind_12 (by decide) (fun h_1 => ?_) (fun h_1 => absurd (Int32.le_refl _) h_1)
    exact K I1 hM ht
  | succ k ih =>
    intro i I1 hik hM ht
    obtain ⟨hO2, hw2, hn2, hs2⟩ := hs_th_all (tw := tw) hO i
    refine hg_iload2 d_M_clashesBehind_10 ?_
    refine hg_iload1 d_M_clashesBehind_11 ?_
    refine hg_icmp_ge (tgt := 25) d_M_clashesBehind_12 (by decide) (fun h_2 => absurd h_2 (nI_ge (by omega) (by omega))) (fun h_2 => ?_)
    refine hg_aload0 d_M_clashesBehind_15 ?_
    refine hg_cVv d_M_clashesBehind_16 l_M_257 rfl rfl (hX.lt (n := 1) ⟨by decide, by decide⟩ rfl (by omega)) rfl (Nat.le_of_ble_eq_true rfl) (m_M_goesThursday hX hR hM hO2 (hT.t ht) (by omega)) rfl ?_
    rintro _ ⟨I2, rfl, hM2, ht2⟩
    refine hg_iinc2 (v := nI (i + 1)) d_M_clashesBehind_19 rfl (nI_add _ _) ?_
    refine hg_goto (tgt := 10) d_M_clashesBehind_22 (by decide) ?_
    exact ih (i + 1) I2 (by omega) hM2 (ht2.tr ht)
theorem m_M_clashesBehind {m : Nat} (hX : hg_XS T X) (hR : hg_SR T Rf) (hO : hs_ok T σ) (hw : hs_wk σ ≤ 9999) (hT : hs_MT T tw I) (hm : m ≤ 60) (hM : hs_MG σ a0 a2 a4 I) (hb : hs_Lb σ a0 a2 a4) : hg_MC l E (d + 8) Y_M_clashesBehind 0 0 [.ref (hg_ad E 21 0), .int (nI m)] (I, Lg, Rf, X) (hg_i (fun v M' => v = nI (hs_cl (hs_th tw σ m)) ∧ ∃ I' : Nat → Nat → Nat → Int32, M' = (I', Lg, Rf, X) ∧ hs_MG σ a0 a2 a4 I' ∧ hm_s I' I)) := by
  refine hg_mc k_M_clashesBehind (Nat.le_of_ble_eq_true rfl) ?_
  show hg_WP l E _ Y_M_clashesBehind 0 0 0 [some (.ref (hg_ad E 21 0)), some (.int (nI m)), none] [] (I, Lg, Rf, X) _
  refine hg_aload0 d_M_clashesBehind_0 ?_
  refine hg_aload0 d_M_clashesBehind_1 ?_
  refine hg_getR d_M_clashesBehind_2 f_M_88 rfl rfl (hX.lt (n := 1) ⟨by decide, by decide⟩ rfl (by omega)) (hR.m (j := 43) (q := (22, 24)) rfl) ?_
  refine hg_cVv d_M_clashesBehind_5 l_M_263 rfl rfl (hX.lt (n := 1) ⟨by decide, by decide⟩ rfl (by omega)) rfl (Nat.le_of_ble_eq_true rfl) (m_M_keep24_ hX hR hM hb) rfl ?_
  rintro _ ⟨I1, rfl, hk, hi⟩
  have g1 := hM.r hk (by decide)
  have hT1 := hT.s (hk.s (Or.inl rfl))
  refine hg_iconst (v := 0) d_M_clashesBehind_8 (by decide) ?_
  refine hg_istore2 d_M_clashesBehind_9 rfl ?_
  refine m_M_cb_go hX hR hO hw hT1 hm ?_ m 0 I1 (Nat.zero_add _) g1.1 hm_t.rf
  intro I2 hM2 ht2
  refine hg_aload0 d_M_clashesBehind_25 ?_
  refine hg_getI d_M_clashesBehind_26 f_M_251 rfl rfl (hX.lt (n := 1) ⟨by decide, by decide⟩ rfl (by omega)) ?_
  refine hg_eq1 (y := nI (hs_cl (hs_th tw σ m))) (hM2.2.2.2.1) ?_
  refine hg_istore2 d_M_clashesBehind_29 rfl ?_
  refine hg_aload0 d_M_clashesBehind_30 ?_
  refine hg_aload0 d_M_clashesBehind_31 ?_
  refine hg_getR d_M_clashesBehind_32 f_M_88 rfl rfl (hX.lt (n := 1) ⟨by decide, by decide⟩ rfl (by omega)) (hR.m (j := 43) (q := (22, 24)) rfl) ?_
  refine hg_cVv d_M_clashesBehind_35 l_M_267 rfl rfl (hX.lt (n := 1) ⟨by decide, by decide⟩ rfl (by omega)) rfl (Nat.le_of_ble_eq_true rfl) (m_M_again24_ hX hR (by rw [ht2.2.2 24 (by decide)]; exact hi) hb) rfl ?_
  rintro _ ⟨I3, rfl, g3, hk3⟩
  refine hg_iload2 d_M_clashesBehind_38 ?_
  refine hg_ireturn d_M_clashesBehind_39 rfl rfl ?_
  exact ⟨rfl, I3, rfl, g3, hk3.s.tr (ht2.s.tr (hk.s (Or.inl rfl)))⟩

theorem m_M_on_go {m : Nat} {x : Int32} {Q : Option Value → hg_M → Prop} (hX : hg_XS T X) (hR : hg_SR T Rf) (hO : hs_ok T σ) (hw : hs_wk σ ≤ 9999) (hT : hs_MT T tw I) (hm : m ≤ 60) (K : ∀ I2 : Nat → Nat → Nat → Int32, hs_MS (hs_th tw σ m) I2 → hm_t I2 I → hg_WP l E (d + 7) Y_M_on 0 0 71 [some (.ref (hg_ad E 21 0)), some (.int (nI m)), some (.int x), some (.int (nI m))] [] (I2, Lg, Rf, X) (Q)) : ∀ (k i : Nat) (I1 : Nat → Nat → Nat → Int32), i + k = m → hs_MS (hs_th tw σ i) I1 → hm_t I1 I → hg_WP l E (d + 7) Y_M_on 0 0 56 [some (.ref (hg_ad E 21 0)), some (.int (nI m)), some (.int x), some (.int (nI i))] [] (I1, Lg, Rf, X) (Q) := by
  intro k
  induction k with
  | zero =>
    intro i I1 hik hM ht
    obtain rfl : i = m := by omega
    refine hg_iload3 d_M_on_56 ?_
    refine hg_iload1 d_M_on_57 ?_
    refine hg_icmp_ge (tgt := 71) d_M_on_58 (by decide) (fun h_1 => ?_) (fun h_1 => absurd (Int32.le_refl _) h_1)
    exact K I1 hM ht
  | succ k ih =>
    intro i I1 hik hM ht
    obtain ⟨hO2, hw2, hn2, hs2⟩ := hs_th_all (tw := tw) hO i
    refine hg_iload3 d_M_on_56 ?_
    refine hg_iload1 d_M_on_57 ?_
    refine hg_icmp_ge (tgt := 71) d_M_on_58 (by decide) (fun h_2 => absurd h_2 (nI_ge (by omega) (by omega))) (fun h_2 => ?_)
    refine hg_aload0 d_M_on_61 ?_
    refine hg_cVv d_M_on_62 l_M_257 rfl rfl (hX.lt (n := 1) ⟨by decide, by decide⟩ rfl (by omega)) rfl (Nat.le_of_ble_eq_true rfl) (m_M_goesThursday hX hR hM hO2 (hT.t ht) (by omega)) rfl ?_
    rintro _ ⟨I2, rfl, hM2, ht2⟩
    refine hg_iinc3 (v := nI (i + 1)) d_M_on_65 rfl (nI_add _ _) ?_
    refine hg_goto (tgt := 56) d_M_on_68 (by decide) ?_
    exact ih (i + 1) I2 (by omega) hM2 (ht2.tr ht)
theorem m_M_on {x y : Int32} (hX : hg_XS (gT G) X) (hR : hg_SR (gT G) Rf) (hM0 : hs_MR G I Lg) (hG : hs_gok G) : hg_MC l E (d + 8) Y_M_on 0 0 [.ref (hg_ad E 21 0), .int x, .int y] (I, Lg, Rf, X) (hg_i (fun v M' => hs_MP v (sp_on (gW G) (gN G) x y) G I Lg Rf X M')) := by
  have hM := hM0.1.1
  have hO := hG.1
  have hn6 := hO.1
  have hT := hM0.2.2.2.2.2.2.2
  have hw := hG.2.1
  have hL0 := hG.2.2.2.1 0 (by decide)
  have hL2 := hG.2.2.2.1 2 (by decide)
  have hL4 := hG.2.2.2.1 4 (by decide)
  replace hL0 : (gL G 0).1 ≤ 5 := hL0
  replace hL2 : (gL G 2).1 ≤ 10 := hL2
  replace hL4 : (gL G 4).1 ≤ 8 := hL4
  have hLb : hs_Lb (gN G) (gL G 0) (gL G 2) (gL G 4) := ⟨hn6, hL0, hL2, hL4⟩
  refine hg_mc k_M_on (Nat.le_of_ble_eq_true rfl) ?_
  show hg_WP l E _ Y_M_on 0 0 0 [some (.ref (hg_ad E 21 0)), some (.int x), some (.int y), none] [] (I, Lg, Rf, X) _
  refine hg_iload2 d_M_on_0 ?_
  refine hg_iconst (v := 0) d_M_on_1 (by decide) ?_
  refine hg_iconst (v := 2) d_M_on_2 (by decide) ?_
  refine hg_cSi d_M_on_3 l_M_111 rfl (Nat.le_of_ble_eq_true rfl) (m_M_in0 (b := 2) (by decide)) rfl ?_
  rintro _ _ ⟨⟨hhc, rfl⟩ | ⟨hhc, rfl⟩, rfl⟩
  · obtain ⟨j, hj, ej⟩ := hhc
    have ihc : hs_ix 3 y = some j := by rw [ej]; exact hs_ix_s (by omega) (by decide)
    subst ej
    show hg_WP l E _ Y_M_on 0 0 6 [some (.ref (hg_ad E 21 0)), some (.int x), some (.int (nI j)), none] [.int 1] (I, Lg, Rf, X) _
    refine hg_if_ne (tgt := 33) d_M_on_6 (by decide) (fun h_1 => ?_) (fun h_1 => absurd (by decide) h_1)
    have h6_j : j = 0 ∨ j = 1 ∨ j = 2 := by omega
    rcases h6_j with rfl | rfl | rfl
    · show hg_WP l E _ Y_M_on 0 0 33 [some (.ref (hg_ad E 21 0)), some (.int x), some (.int 0), none] [] (I, Lg, Rf, X) _
      replace ihc : hs_ix 3 0 = some 0 := ihc
      refine hg_iload1 d_M_on_33 ?_
      refine hg_iconst (v := 0) d_M_on_34 (by decide) ?_
      refine hg_bipush (v := 60) d_M_on_35 (by decide) ?_
      refine hg_cSi d_M_on_37 l_M_111 rfl (Nat.le_of_ble_eq_true rfl) (m_M_in0 (b := 60) (by decide)) rfl ?_
      rintro _ _ ⟨⟨hhd, rfl⟩ | ⟨hhd, rfl⟩, rfl⟩
      · obtain ⟨m, hm, em⟩ := hhd
        have ihd : hs_ix 61 x = some m := by rw [em]; exact hs_ix_s (by omega) (by decide)
        subst em
        show hg_WP l E _ Y_M_on 0 0 40 [some (.ref (hg_ad E 21 0)), some (.int (nI m)), some (.int 0), none] [.int 1] (I, Lg, Rf, X) _
        refine hg_if_ne (tgt := 46) d_M_on_40 (by decide) (fun h_2 => ?_) (fun h_2 => absurd (by decide) h_2)
        refine hg_aload0 d_M_on_46 ?_
        refine hg_aload0 d_M_on_47 ?_
        refine hg_getR d_M_on_48 f_M_88 rfl rfl (hX.lt (n := 1) ⟨by decide, by decide⟩ rfl (by omega)) (hR.m (j := 43) (q := (22, 24)) rfl) ?_
        refine hg_cVv d_M_on_51 l_M_263 rfl rfl (hX.lt (n := 1) ⟨by decide, by decide⟩ rfl (by omega)) rfl (Nat.le_of_ble_eq_true rfl) (m_M_keep24_ hX hR hM0.1 hLb) rfl ?_
        rintro _ ⟨I1, rfl, hk1, hi⟩
        have g1 := hM0.1.r hk1 (by decide)
        have hT1 := hT.s (hk1.s (Or.inl rfl))
        refine hg_iconst (v := 0) d_M_on_54 (by decide) ?_
        refine hg_istore3 d_M_on_55 rfl ?_
        refine m_M_on_go hX hR hO hw hT1 hm ?_ m 0 I1 (Nat.zero_add _) g1.1 hm_t.rf
        intro I2 hM2 ht2
        obtain ⟨hO2, hw2, hn2, -⟩ := hs_th_all (tw := gW G) hO m
        refine hg_iload2 d_M_on_71 ?_
        refine hg_if_ne (tgt := 82) d_M_on_72 (by decide) (fun h_3 => absurd h_3 (by decide)) (fun h_3 => ?_)
        refine hg_aload0 d_M_on_75 ?_
        refine hg_cVi d_M_on_76 l_M_254 rfl rfl (hX.lt (n := 1) ⟨by decide, by decide⟩ rfl (by omega)) rfl (Nat.le_of_ble_eq_true rfl) (m_M_host hX hR hM2 hO2 (hT1.t ht2) (by omega)) rfl ?_
        rintro _ _ ⟨rfl, I3, rfl, hq3⟩
        refine hg_goto (tgt := 133) d_M_on_79 (by decide) ?_
        refine hg_istore3 d_M_on_133 rfl ?_
        refine hg_aload0 d_M_on_134 ?_
        refine hg_aload0 d_M_on_135 ?_
        refine hg_getR d_M_on_136 f_M_88 rfl rfl (hX.lt (n := 1) ⟨by decide, by decide⟩ rfl (by omega)) (hR.m (j := 43) (q := (22, 24)) rfl) ?_
        have hs3 := hq3.s.tr (ht2.s.tr (hk1.s (Or.inl rfl)))
        have hi3 : hs_MI (gN G) (gL G 0) (gL G 2) (gL G 4) (I3 22 24) := by rw [hq3 22 (by decide), ht2.2.2 24 (by decide)]; exact hi
        refine hg_cVv d_M_on_139 l_M_267 rfl rfl (hX.lt (n := 1) ⟨by decide, by decide⟩ rfl (by omega)) rfl (Nat.le_of_ble_eq_true rfl) (m_M_again24_ hX hR hi3 hLb) rfl ?_
        rintro _ ⟨I4, rfl, g4, hk4⟩
        refine hg_iload3 d_M_on_142 ?_
        refine hg_ireturn d_M_on_143 rfl rfl ?_
        refine ⟨?_, I4, Lg, rfl, hM0.Z g4 (hk4.s.tr hs3), (hk4.s.tr hs3).lo, fun _ _ => rfl⟩
        show _ = sp_on (gW G) (gN G) (nI m) 0
        simp only [sp_on, ihc, ihd, hs_ix_neg (n := hs_n (gN G)) (by omega) (show (0 : Int32) - 10 < 0 by decide), hs_ix_neg (n := hs_n (gN G)) (by omega) (show (0 : Int32) - 20 < 0 by decide)]; rfl
      · have ihd : hs_ix 61 x = none := hs_ix_n2 hhd
        refine hg_if_ne (tgt := 46) d_M_on_40 (by decide) (fun h_4 => absurd h_4 (by decide)) (fun h_4 => ?_)
        refine hg_bipush (v := (-2)) d_M_on_43 (by decide) ?_
        refine hg_ireturn d_M_on_45 rfl rfl ?_
        refine ⟨?_, I, Lg, rfl, hM0, fun _ _ => rfl, fun _ _ => rfl⟩
        show _ = sp_on (gW G) (gN G) x 0
        simp [sp_on, ihc, ihd]
    · show hg_WP l E _ Y_M_on 0 0 33 [some (.ref (hg_ad E 21 0)), some (.int x), some (.int 1), none] [] (I, Lg, Rf, X) _
      replace ihc : hs_ix 3 1 = some 1 := ihc
      refine hg_iload1 d_M_on_33 ?_
      refine hg_iconst (v := 0) d_M_on_34 (by decide) ?_
      refine hg_bipush (v := 60) d_M_on_35 (by decide) ?_
      refine hg_cSi d_M_on_37 l_M_111 rfl (Nat.le_of_ble_eq_true rfl) (m_M_in0 (b := 60) (by decide)) rfl ?_
      rintro _ _ ⟨⟨hhd, rfl⟩ | ⟨hhd, rfl⟩, rfl⟩
      · obtain ⟨m, hm, em⟩ := hhd
        have ihd : hs_ix 61 x = some m := by rw [em]; exact hs_ix_s (by omega) (by decide)
        subst em
        show hg_WP l E _ Y_M_on 0 0 40 [some (.ref (hg_ad E 21 0)), some (.int (nI m)), some (.int 1), none] [.int 1] (I, Lg, Rf, X) _
        refine hg_if_ne (tgt := 46) d_M_on_40 (by decide) (fun h_5 => ?_) (fun h_5 => absurd (by decide) h_5)
        refine hg_aload0 d_M_on_46 ?_
        refine hg_aload0 d_M_on_47 ?_
        refine hg_getR d_M_on_48 f_M_88 rfl rfl (hX.lt (n := 1) ⟨by decide, by decide⟩ rfl (by omega)) (hR.m (j := 43) (q := (22, 24)) rfl) ?_
        refine hg_cVv d_M_on_51 l_M_263 rfl rfl (hX.lt (n := 1) ⟨by decide, by decide⟩ rfl (by omega)) rfl (Nat.le_of_ble_eq_true rfl) (m_M_keep24_ hX hR hM0.1 hLb) rfl ?_
        rintro _ ⟨I1, rfl, hk1, hi⟩
        have g1 := hM0.1.r hk1 (by decide)
        have hT1 := hT.s (hk1.s (Or.inl rfl))
        refine hg_iconst (v := 0) d_M_on_54 (by decide) ?_
        refine hg_istore3 d_M_on_55 rfl ?_
        refine m_M_on_go hX hR hO hw hT1 hm ?_ m 0 I1 (Nat.zero_add _) g1.1 hm_t.rf
        intro I2 hM2 ht2
        obtain ⟨hO2, hw2, hn2, -⟩ := hs_th_all (tw := gW G) hO m
        refine hg_iload2 d_M_on_71 ?_
        refine hg_if_ne (tgt := 82) d_M_on_72 (by decide) (fun h_6 => ?_) (fun h_6 => absurd (by decide) h_6)
        refine hg_iload2 d_M_on_82 ?_
        refine hg_iconst (v := 1) d_M_on_83 (by decide) ?_
        refine hg_icmp_ne (tgt := 94) d_M_on_84 (by decide) (fun h_7 => absurd h_7 (by decide)) (fun h_7 => ?_)
        refine hg_aload0 d_M_on_87 ?_
        refine hg_getI d_M_on_88 f_M_251 rfl rfl (hX.lt (n := 1) ⟨by decide, by decide⟩ rfl (by omega)) ?_
        refine hg_eq1 (y := nI (hs_cl (hs_th (gW G) (gN G) m))) (hM2.2.2.2.1) ?_
        refine hg_goto (tgt := 133) d_M_on_91 (by decide) ?_
        refine hg_istore3 d_M_on_133 rfl ?_
        refine hg_aload0 d_M_on_134 ?_
        refine hg_aload0 d_M_on_135 ?_
        refine hg_getR d_M_on_136 f_M_88 rfl rfl (hX.lt (n := 1) ⟨by decide, by decide⟩ rfl (by omega)) (hR.m (j := 43) (q := (22, 24)) rfl) ?_
        have hs3 := ht2.s.tr (hk1.s (Or.inl rfl))
        have hi3 : hs_MI (gN G) (gL G 0) (gL G 2) (gL G 4) (I2 22 24) := by rw [ht2.2.2 24 (by decide)]; exact hi
        refine hg_cVv d_M_on_139 l_M_267 rfl rfl (hX.lt (n := 1) ⟨by decide, by decide⟩ rfl (by omega)) rfl (Nat.le_of_ble_eq_true rfl) (m_M_again24_ hX hR hi3 hLb) rfl ?_
        rintro _ ⟨I4, rfl, g4, hk4⟩
        refine hg_iload3 d_M_on_142 ?_
        refine hg_ireturn d_M_on_143 rfl rfl ?_
        refine ⟨?_, I4, Lg, rfl, hM0.Z g4 (hk4.s.tr hs3), (hk4.s.tr hs3).lo, fun _ _ => rfl⟩
        show _ = sp_on (gW G) (gN G) (nI m) 1
        simp only [sp_on, ihc, ihd, hs_ix_neg (n := hs_n (gN G)) (by omega) (show (1 : Int32) - 10 < 0 by decide), hs_ix_neg (n := hs_n (gN G)) (by omega) (show (1 : Int32) - 20 < 0 by decide)]; rfl
      · have ihd : hs_ix 61 x = none := hs_ix_n2 hhd
        refine hg_if_ne (tgt := 46) d_M_on_40 (by decide) (fun h_8 => absurd h_8 (by decide)) (fun h_8 => ?_)
        refine hg_bipush (v := (-2)) d_M_on_43 (by decide) ?_
        refine hg_ireturn d_M_on_45 rfl rfl ?_
        refine ⟨?_, I, Lg, rfl, hM0, fun _ _ => rfl, fun _ _ => rfl⟩
        show _ = sp_on (gW G) (gN G) x 1
        simp [sp_on, ihc, ihd]
    · show hg_WP l E _ Y_M_on 0 0 33 [some (.ref (hg_ad E 21 0)), some (.int x), some (.int 2), none] [] (I, Lg, Rf, X) _
      replace ihc : hs_ix 3 2 = some 2 := ihc
      refine hg_iload1 d_M_on_33 ?_
      refine hg_iconst (v := 0) d_M_on_34 (by decide) ?_
      refine hg_bipush (v := 60) d_M_on_35 (by decide) ?_
      refine hg_cSi d_M_on_37 l_M_111 rfl (Nat.le_of_ble_eq_true rfl) (m_M_in0 (b := 60) (by decide)) rfl ?_
      rintro _ _ ⟨⟨hhd, rfl⟩ | ⟨hhd, rfl⟩, rfl⟩
      · obtain ⟨m, hm, em⟩ := hhd
        have ihd : hs_ix 61 x = some m := by rw [em]; exact hs_ix_s (by omega) (by decide)
        subst em
        show hg_WP l E _ Y_M_on 0 0 40 [some (.ref (hg_ad E 21 0)), some (.int (nI m)), some (.int 2), none] [.int 1] (I, Lg, Rf, X) _
        refine hg_if_ne (tgt := 46) d_M_on_40 (by decide) (fun h_9 => ?_) (fun h_9 => absurd (by decide) h_9)
        refine hg_aload0 d_M_on_46 ?_
        refine hg_aload0 d_M_on_47 ?_
        refine hg_getR d_M_on_48 f_M_88 rfl rfl (hX.lt (n := 1) ⟨by decide, by decide⟩ rfl (by omega)) (hR.m (j := 43) (q := (22, 24)) rfl) ?_
        refine hg_cVv d_M_on_51 l_M_263 rfl rfl (hX.lt (n := 1) ⟨by decide, by decide⟩ rfl (by omega)) rfl (Nat.le_of_ble_eq_true rfl) (m_M_keep24_ hX hR hM0.1 hLb) rfl ?_
        rintro _ ⟨I1, rfl, hk1, hi⟩
        have g1 := hM0.1.r hk1 (by decide)
        have hT1 := hT.s (hk1.s (Or.inl rfl))
        refine hg_iconst (v := 0) d_M_on_54 (by decide) ?_
        refine hg_istore3 d_M_on_55 rfl ?_
        refine m_M_on_go hX hR hO hw hT1 hm ?_ m 0 I1 (Nat.zero_add _) g1.1 hm_t.rf
        intro I2 hM2 ht2
        obtain ⟨hO2, hw2, hn2, -⟩ := hs_th_all (tw := gW G) hO m
        refine hg_iload2 d_M_on_71 ?_
        refine hg_if_ne (tgt := 82) d_M_on_72 (by decide) (fun h_10 => ?_) (fun h_10 => absurd (by decide) h_10)
        refine hg_iload2 d_M_on_82 ?_
        refine hg_iconst (v := 1) d_M_on_83 (by decide) ?_
        refine hg_icmp_ne (tgt := 94) d_M_on_84 (by decide) (fun h_11 => ?_) (fun h_11 => absurd (by decide) h_11)
        refine hg_iload2 d_M_on_94 ?_
        refine hg_iconst (v := 2) d_M_on_95 (by decide) ?_
        refine hg_icmp_ne (tgt := 106) d_M_on_96 (by decide) (fun h_12 => absurd h_12 (by decide)) (fun h_12 => ?_)
        refine hg_aload0 d_M_on_99 ?_
        refine hg_getI d_M_on_100 f_M_248 rfl rfl (hX.lt (n := 1) ⟨by decide, by decide⟩ rfl (by omega)) ?_
        refine hg_eq1 (y := nI (hs_hu (hs_th (gW G) (gN G) m))) (hM2.2.2.1) ?_
        refine hg_goto (tgt := 133) d_M_on_103 (by decide) ?_
        refine hg_istore3 d_M_on_133 rfl ?_
        refine hg_aload0 d_M_on_134 ?_
        refine hg_aload0 d_M_on_135 ?_
        refine hg_getR d_M_on_136 f_M_88 rfl rfl (hX.lt (n := 1) ⟨by decide, by decide⟩ rfl (by omega)) (hR.m (j := 43) (q := (22, 24)) rfl) ?_
        have hs3 := ht2.s.tr (hk1.s (Or.inl rfl))
        have hi3 : hs_MI (gN G) (gL G 0) (gL G 2) (gL G 4) (I2 22 24) := by rw [ht2.2.2 24 (by decide)]; exact hi
        refine hg_cVv d_M_on_139 l_M_267 rfl rfl (hX.lt (n := 1) ⟨by decide, by decide⟩ rfl (by omega)) rfl (Nat.le_of_ble_eq_true rfl) (m_M_again24_ hX hR hi3 hLb) rfl ?_
        rintro _ ⟨I4, rfl, g4, hk4⟩
        refine hg_iload3 d_M_on_142 ?_
        refine hg_ireturn d_M_on_143 rfl rfl ?_
        refine ⟨?_, I4, Lg, rfl, hM0.Z g4 (hk4.s.tr hs3), (hk4.s.tr hs3).lo, fun _ _ => rfl⟩
        show _ = sp_on (gW G) (gN G) (nI m) 2
        simp only [sp_on, ihc, ihd, hs_ix_neg (n := hs_n (gN G)) (by omega) (show (2 : Int32) - 10 < 0 by decide), hs_ix_neg (n := hs_n (gN G)) (by omega) (show (2 : Int32) - 20 < 0 by decide)]; rfl
      · have ihd : hs_ix 61 x = none := hs_ix_n2 hhd
        refine hg_if_ne (tgt := 46) d_M_on_40 (by decide) (fun h_13 => absurd h_13 (by decide)) (fun h_13 => ?_)
        refine hg_bipush (v := (-2)) d_M_on_43 (by decide) ?_
        refine hg_ireturn d_M_on_45 rfl rfl ?_
        refine ⟨?_, I, Lg, rfl, hM0, fun _ _ => rfl, fun _ _ => rfl⟩
        show _ = sp_on (gW G) (gN G) x 2
        simp [sp_on, ihc, ihd]
  · have ihc : hs_ix 3 y = none := hs_ix_n2 hhc
    refine hg_if_ne (tgt := 33) d_M_on_6 (by decide) (fun h_14 => absurd h_14 (by decide)) (fun h_14 => ?_)
    refine hg_aload0 d_M_on_9 ?_
    refine hg_iload2 d_M_on_10 ?_
    refine hg_bipush (v := 10) d_M_on_11 (by decide) ?_
    refine hg_isub d_M_on_13 ?_
    refine hg_cVi d_M_on_14 l_M_115 rfl rfl (hX.lt (n := 1) ⟨by decide, by decide⟩ rfl (by omega)) rfl (Nat.le_of_ble_eq_true rfl) (m_M_isOne hX hM.1 hn6) rfl ?_
    rintro _ _ ⟨⟨hhb, rfl⟩ | ⟨hhb, rfl⟩, rfl⟩
    · obtain ⟨k, hk, ek⟩ := hhb
      have ew : y = nI (k + 10) := (Int32.sub_add_cancel y 10).symm.trans (by rw [ek]; exact nI_add k 10)
      subst ew
      show hg_WP l E _ Y_M_on 0 0 17 [some (.ref (hg_ad E 21 0)), some (.int x), some (.int (nI (k + 10))), none] [.int 1] (I, Lg, Rf, X) _
      have ihb : hs_ix (hs_n (gN G)) (nI (k + 10) - 10) = some k := by rw [ek]; exact hs_ix_s hk (by omega)
      refine hg_if_ne (tgt := 33) d_M_on_17 (by decide) (fun h_15 => ?_) (fun h_15 => absurd (by decide) h_15)
      refine hg_iload1 d_M_on_33 ?_
      refine hg_iconst (v := 0) d_M_on_34 (by decide) ?_
      refine hg_bipush (v := 60) d_M_on_35 (by decide) ?_
      refine hg_cSi d_M_on_37 l_M_111 rfl (Nat.le_of_ble_eq_true rfl) (m_M_in0 (b := 60) (by decide)) rfl ?_
      rintro _ _ ⟨⟨hhd, rfl⟩ | ⟨hhd, rfl⟩, rfl⟩
      · obtain ⟨m, hm, em⟩ := hhd
        have ihd : hs_ix 61 x = some m := by rw [em]; exact hs_ix_s (by omega) (by decide)
        subst em
        show hg_WP l E _ Y_M_on 0 0 40 [some (.ref (hg_ad E 21 0)), some (.int (nI m)), some (.int (nI (k + 10))), none] [.int 1] (I, Lg, Rf, X) _
        refine hg_if_ne (tgt := 46) d_M_on_40 (by decide) (fun h_16 => ?_) (fun h_16 => absurd (by decide) h_16)
        refine hg_aload0 d_M_on_46 ?_
        refine hg_aload0 d_M_on_47 ?_
        refine hg_getR d_M_on_48 f_M_88 rfl rfl (hX.lt (n := 1) ⟨by decide, by decide⟩ rfl (by omega)) (hR.m (j := 43) (q := (22, 24)) rfl) ?_
        refine hg_cVv d_M_on_51 l_M_263 rfl rfl (hX.lt (n := 1) ⟨by decide, by decide⟩ rfl (by omega)) rfl (Nat.le_of_ble_eq_true rfl) (m_M_keep24_ hX hR hM0.1 hLb) rfl ?_
        rintro _ ⟨I1, rfl, hk1, hi⟩
        have g1 := hM0.1.r hk1 (by decide)
        have hT1 := hT.s (hk1.s (Or.inl rfl))
        refine hg_iconst (v := 0) d_M_on_54 (by decide) ?_
        refine hg_istore3 d_M_on_55 rfl ?_
        refine m_M_on_go hX hR hO hw hT1 hm ?_ m 0 I1 (Nat.zero_add _) g1.1 hm_t.rf
        intro I2 hM2 ht2
        obtain ⟨hO2, hw2, hn2, -⟩ := hs_th_all (tw := gW G) hO m
        refine hg_iload2 d_M_on_71 ?_
        refine hg_if_ne (tgt := 82) d_M_on_72 (by decide) (fun h_17 => ?_) (fun h_17 => absurd (fun z => absurd z (by rw [show (0 : Int32) = nI 0 from rfl]; intro z; have := (nI_eq (by omega) (by omega)).mp z; omega)) h_17)
        refine hg_iload2 d_M_on_82 ?_
        refine hg_iconst (v := 1) d_M_on_83 (by decide) ?_
        refine hg_icmp_ne (tgt := 94) d_M_on_84 (by decide) (fun h_18 => ?_) (fun h_18 => absurd (fun z => absurd z (by rw [show (1 : Int32) = nI 1 from rfl]; intro z; have := (nI_eq (by omega) (by omega)).mp z; omega)) h_18)
        refine hg_iload2 d_M_on_94 ?_
        refine hg_iconst (v := 2) d_M_on_95 (by decide) ?_
        refine hg_icmp_ne (tgt := 106) d_M_on_96 (by decide) (fun h_19 => ?_) (fun h_19 => absurd (fun z => absurd z (by rw [show (2 : Int32) = nI 2 from rfl]; intro z; have := (nI_eq (by omega) (by omega)).mp z; omega)) h_19)
        refine hg_iload2 d_M_on_106 ?_
        refine hg_bipush (v := 20) d_M_on_107 (by decide) ?_
        refine hg_icmp_ge (tgt := 124) d_M_on_109 (by decide) (fun h_20 => absurd h_20 (nI_ge (a := k + 10) (b := 20) (by omega) (by decide))) (fun h_20 => ?_)
        refine hg_aload0 d_M_on_112 ?_
        refine hg_getR d_M_on_113 f_M_24 rfl rfl (hX.lt (n := 1) ⟨by decide, by decide⟩ rfl (by omega)) (hR.m (j := 5) (q := (22, 4)) rfl) ?_
        refine hg_iload2 d_M_on_116 ?_
        refine hg_bipush (v := 10) d_M_on_117 (by decide) ?_
        refine hg_isub d_M_on_119 ?_
        refine hg_eq1 (y := nI k) (pk_sub (a := k + 10) (b := 10) (by omega)) ?_
        refine hg_iald_n (j := k) d_M_on_120 rfl rfl (hX.lt (n := 28) ⟨by decide, by decide⟩ rfl (by omega)) (hX.jn (n := 6) (by decide) rfl (by omega)) ?_
        refine hg_eq1 (y := hs_hv (hs_th (gW G) (gN G) m) k 4) (hM2.2.2.2.2.2.2.2.1 k 4 (by omega) (by decide)) ?_
        refine hg_goto (tgt := 133) d_M_on_121 (by decide) ?_
        refine hg_istore3 d_M_on_133 rfl ?_
        refine hg_aload0 d_M_on_134 ?_
        refine hg_aload0 d_M_on_135 ?_
        refine hg_getR d_M_on_136 f_M_88 rfl rfl (hX.lt (n := 1) ⟨by decide, by decide⟩ rfl (by omega)) (hR.m (j := 43) (q := (22, 24)) rfl) ?_
        have hs3 := ht2.s.tr (hk1.s (Or.inl rfl))
        have hi3 : hs_MI (gN G) (gL G 0) (gL G 2) (gL G 4) (I2 22 24) := by rw [ht2.2.2 24 (by decide)]; exact hi
        refine hg_cVv d_M_on_139 l_M_267 rfl rfl (hX.lt (n := 1) ⟨by decide, by decide⟩ rfl (by omega)) rfl (Nat.le_of_ble_eq_true rfl) (m_M_again24_ hX hR hi3 hLb) rfl ?_
        rintro _ ⟨I4, rfl, g4, hk4⟩
        refine hg_iload3 d_M_on_142 ?_
        refine hg_ireturn d_M_on_143 rfl rfl ?_
        refine ⟨?_, I4, Lg, rfl, hM0.Z g4 (hk4.s.tr hs3), (hk4.s.tr hs3).lo, fun _ _ => rfl⟩
        simp [sp_on, ihc, ihb, ihd]
      · have ihd : hs_ix 61 x = none := hs_ix_n2 hhd
        refine hg_if_ne (tgt := 46) d_M_on_40 (by decide) (fun h_21 => absurd h_21 (by decide)) (fun h_21 => ?_)
        refine hg_bipush (v := (-2)) d_M_on_43 (by decide) ?_
        refine hg_ireturn d_M_on_45 rfl rfl ?_
        refine ⟨?_, I, Lg, rfl, hM0, fun _ _ => rfl, fun _ _ => rfl⟩
        simp [sp_on, ihc, ihb, ihd]
    · have ihb : hs_ix (hs_n (gN G)) (y - 10) = none := hs_ix_n hhb
      refine hg_if_ne (tgt := 33) d_M_on_17 (by decide) (fun h_22 => absurd h_22 (by decide)) (fun h_22 => ?_)
      refine hg_aload0 d_M_on_20 ?_
      refine hg_iload2 d_M_on_21 ?_
      refine hg_bipush (v := 20) d_M_on_22 (by decide) ?_
      refine hg_isub d_M_on_24 ?_
      refine hg_cVi d_M_on_25 l_M_115 rfl rfl (hX.lt (n := 1) ⟨by decide, by decide⟩ rfl (by omega)) rfl (Nat.le_of_ble_eq_true rfl) (m_M_isOne hX hM.1 hn6) rfl ?_
      rintro _ _ ⟨⟨hhe, rfl⟩ | ⟨hhe, rfl⟩, rfl⟩
      · obtain ⟨k, hk, ek⟩ := hhe
        have ew : y = nI (k + 20) := (Int32.sub_add_cancel y 20).symm.trans (by rw [ek]; exact nI_add k 20)
        subst ew
        show hg_WP l E _ Y_M_on 0 0 28 [some (.ref (hg_ad E 21 0)), some (.int x), some (.int (nI (k + 20))), none] [.int 1] (I, Lg, Rf, X) _
        have ihe : hs_ix (hs_n (gN G)) (nI (k + 20) - 20) = some k := by rw [ek]; exact hs_ix_s hk (by omega)
        refine hg_if_ne (tgt := 33) d_M_on_28 (by decide) (fun h_23 => ?_) (fun h_23 => absurd (by decide) h_23)
        refine hg_iload1 d_M_on_33 ?_
        refine hg_iconst (v := 0) d_M_on_34 (by decide) ?_
        refine hg_bipush (v := 60) d_M_on_35 (by decide) ?_
        refine hg_cSi d_M_on_37 l_M_111 rfl (Nat.le_of_ble_eq_true rfl) (m_M_in0 (b := 60) (by decide)) rfl ?_
        rintro _ _ ⟨⟨hhd, rfl⟩ | ⟨hhd, rfl⟩, rfl⟩
        · obtain ⟨m, hm, em⟩ := hhd
          have ihd : hs_ix 61 x = some m := by rw [em]; exact hs_ix_s (by omega) (by decide)
          subst em
          show hg_WP l E _ Y_M_on 0 0 40 [some (.ref (hg_ad E 21 0)), some (.int (nI m)), some (.int (nI (k + 20))), none] [.int 1] (I, Lg, Rf, X) _
          refine hg_if_ne (tgt := 46) d_M_on_40 (by decide) (fun h_24 => ?_) (fun h_24 => absurd (by decide) h_24)
          refine hg_aload0 d_M_on_46 ?_
          refine hg_aload0 d_M_on_47 ?_
          refine hg_getR d_M_on_48 f_M_88 rfl rfl (hX.lt (n := 1) ⟨by decide, by decide⟩ rfl (by omega)) (hR.m (j := 43) (q := (22, 24)) rfl) ?_
          refine hg_cVv d_M_on_51 l_M_263 rfl rfl (hX.lt (n := 1) ⟨by decide, by decide⟩ rfl (by omega)) rfl (Nat.le_of_ble_eq_true rfl) (m_M_keep24_ hX hR hM0.1 hLb) rfl ?_
          rintro _ ⟨I1, rfl, hk1, hi⟩
          have g1 := hM0.1.r hk1 (by decide)
          have hT1 := hT.s (hk1.s (Or.inl rfl))
          refine hg_iconst (v := 0) d_M_on_54 (by decide) ?_
          refine hg_istore3 d_M_on_55 rfl ?_
          refine m_M_on_go hX hR hO hw hT1 hm ?_ m 0 I1 (Nat.zero_add _) g1.1 hm_t.rf
          intro I2 hM2 ht2
          obtain ⟨hO2, hw2, hn2, -⟩ := hs_th_all (tw := gW G) hO m
          refine hg_iload2 d_M_on_71 ?_
          refine hg_if_ne (tgt := 82) d_M_on_72 (by decide) (fun h_25 => ?_) (fun h_25 => absurd (fun z => absurd z (by rw [show (0 : Int32) = nI 0 from rfl]; intro z; have := (nI_eq (by omega) (by omega)).mp z; omega)) h_25)
          refine hg_iload2 d_M_on_82 ?_
          refine hg_iconst (v := 1) d_M_on_83 (by decide) ?_
          refine hg_icmp_ne (tgt := 94) d_M_on_84 (by decide) (fun h_26 => ?_) (fun h_26 => absurd (fun z => absurd z (by rw [show (1 : Int32) = nI 1 from rfl]; intro z; have := (nI_eq (by omega) (by omega)).mp z; omega)) h_26)
          refine hg_iload2 d_M_on_94 ?_
          refine hg_iconst (v := 2) d_M_on_95 (by decide) ?_
          refine hg_icmp_ne (tgt := 106) d_M_on_96 (by decide) (fun h_27 => ?_) (fun h_27 => absurd (fun z => absurd z (by rw [show (2 : Int32) = nI 2 from rfl]; intro z; have := (nI_eq (by omega) (by omega)).mp z; omega)) h_27)
          refine hg_iload2 d_M_on_106 ?_
          refine hg_bipush (v := 20) d_M_on_107 (by decide) ?_
          refine hg_icmp_ge (tgt := 124) d_M_on_109 (by decide) (fun h_28 => ?_) (fun h_28 => absurd (nI_le (a := 20) (b := k + 20) (by omega) (by omega)) h_28)
          refine hg_aload0 d_M_on_124 ?_
          refine hg_getR d_M_on_125 f_M_21 rfl rfl (hX.lt (n := 1) ⟨by decide, by decide⟩ rfl (by omega)) (hR.m (j := 4) (q := (22, 3)) rfl) ?_
          refine hg_iload2 d_M_on_128 ?_
          refine hg_bipush (v := 20) d_M_on_129 (by decide) ?_
          refine hg_isub d_M_on_131 ?_
          refine hg_eq1 (y := nI k) (pk_sub (a := k + 20) (b := 20) (by omega)) ?_
          refine hg_iald_n (j := k) d_M_on_132 rfl rfl (hX.lt (n := 28) ⟨by decide, by decide⟩ rfl (by omega)) (hX.jn (n := 6) (by decide) rfl (by omega)) ?_
          refine hg_eq1 (y := hs_hv (hs_th (gW G) (gN G) m) k 3) (hM2.2.2.2.2.2.2.2.1 k 3 (by omega) (by decide)) ?_
          refine hg_istore3 d_M_on_133 rfl ?_
          refine hg_aload0 d_M_on_134 ?_
          refine hg_aload0 d_M_on_135 ?_
          refine hg_getR d_M_on_136 f_M_88 rfl rfl (hX.lt (n := 1) ⟨by decide, by decide⟩ rfl (by omega)) (hR.m (j := 43) (q := (22, 24)) rfl) ?_
          have hs3 := ht2.s.tr (hk1.s (Or.inl rfl))
          have hi3 : hs_MI (gN G) (gL G 0) (gL G 2) (gL G 4) (I2 22 24) := by rw [ht2.2.2 24 (by decide)]; exact hi
          refine hg_cVv d_M_on_139 l_M_267 rfl rfl (hX.lt (n := 1) ⟨by decide, by decide⟩ rfl (by omega)) rfl (Nat.le_of_ble_eq_true rfl) (m_M_again24_ hX hR hi3 hLb) rfl ?_
          rintro _ ⟨I4, rfl, g4, hk4⟩
          refine hg_iload3 d_M_on_142 ?_
          refine hg_ireturn d_M_on_143 rfl rfl ?_
          refine ⟨?_, I4, Lg, rfl, hM0.Z g4 (hk4.s.tr hs3), (hk4.s.tr hs3).lo, fun _ _ => rfl⟩
          simp [sp_on, ihc, ihb, ihe, ihd]
        · have ihd : hs_ix 61 x = none := hs_ix_n2 hhd
          refine hg_if_ne (tgt := 46) d_M_on_40 (by decide) (fun h_29 => absurd h_29 (by decide)) (fun h_29 => ?_)
          refine hg_bipush (v := (-2)) d_M_on_43 (by decide) ?_
          refine hg_ireturn d_M_on_45 rfl rfl ?_
          refine ⟨?_, I, Lg, rfl, hM0, fun _ _ => rfl, fun _ _ => rfl⟩
          simp [sp_on, ihc, ihb, ihe, ihd]
      · have ihe : hs_ix (hs_n (gN G)) (y - 20) = none := hs_ix_n hhe
        refine hg_if_ne (tgt := 33) d_M_on_28 (by decide) (fun h_30 => absurd h_30 (by decide)) (fun h_30 => ?_)
        refine hg_iconst (v := (-1)) d_M_on_31 (by decide) ?_
        refine hg_ireturn d_M_on_32 rfl rfl ?_
        refine ⟨?_, I, Lg, rfl, hM0, fun _ _ => rfl, fun _ _ => rfl⟩
        simp [sp_on, ihc, ihb, ihe]

end M37
