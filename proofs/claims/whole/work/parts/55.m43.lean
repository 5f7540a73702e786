/-! the model: isSeen, can -/
section M43
variable {l : Launch} {E : hg_E} {d T : Nat}
variable {I : Nat → Nat → Nat → Int32} {Lg : Nat → Nat → Nat → Int64} {Rf : Nat → Nat → Nat → Option (Nat × Nat)} {X : Nat × (Nat → Nat) × (Nat → Nat → Nat)}
variable {I' I1 : Nat → Nat → Nat → Int32} {Lg' : Nat → Nat → Nat → Int64} {σ τ : hs_S} {tw : hs_W} {a0 a2 a4 : hs_L} {G : hs_G}
theorem hs_B_cg {p q : Prop} (h : p ↔ q) : hs_B p = hs_B q := by rw [propext h]
/-- so far as it is seen of the first n weeks -/
def se_P (tw : hs_W) (σ : hs_S) (a : hs_L) (n : Nat) : Prop := ∀ i, i < a.1 → ∀ m, m < n → a.2.1 i = nI m → hs_hov (hs_ho tw (hs_th tw σ m)) = a.2.2 i
def se_Q (tw : hs_W) (σ : hs_S) (a : hs_L) (n i : Nat) : Prop := se_P tw σ a n ∧ ∀ j, j < i → a.2.1 j = nI n → hs_hov (hs_ho tw (hs_th tw σ n)) = a.2.2 j
theorem se_Q0 {a : hs_L} {n : Nat} : se_P tw σ a n ↔ se_Q tw σ a n 0 := ⟨fun h => ⟨h, fun j hj => absurd hj (Nat.not_lt_zero _)⟩, fun h => h.1⟩
theorem se_Qn {a : hs_L} {n : Nat} (hn : n ≤ 12) : se_Q tw σ a n a.1 ↔ se_P tw σ a (n + 1) := by
  refine ⟨fun h i hi m hm e => ?_, fun h => ⟨fun i hi m hm e => h i hi m (by omega) e, fun j hj e => h j hj n (by omega) e⟩⟩
  by_cases z : m = n
  · subst z; exact h.2 i hi e
  · exact h.1 i hi m (by omega) e
theorem se_Q1 {a : hs_L} {n i : Nat} (h : a.2.1 i = nI n → hs_hov (hs_ho tw (hs_th tw σ n)) = a.2.2 i) : se_Q tw σ a n i ↔ se_Q tw σ a n (i + 1) := by
  refine ⟨fun q => ⟨q.1, fun j hj e => ?_⟩, fun q => ⟨q.1, fun j hj e => q.2 j (by omega) e⟩⟩
  by_cases z : j = i
  · subst z; exact h e
  · exact q.2 j (by omega) e
theorem se_hov {o : Option Nat} {x y : Int32} (ho : ∀ z, o = some z → z < 6) (hy : y = -1 ∨ ∃ h : Nat, h < 6 ∧ y = nI h) : hs_h5 o = hs_y0 x y ↔ hs_hov o = y := by
  have n1 : ∀ h : Nat, h < 6 → ¬ nI h = -1 := fun h hh z => by
    have := congrArg Int32.toInt z; rw [nI_toInt (by omega)] at this; exact absurd this (by rw [show (-1 : Int32).toInt = -1 by decide]; omega)
  have n5 : ∀ h : Nat, h < 6 → ¬ nI h = -5 := fun h hh z => by
    have := congrArg Int32.toInt z; rw [nI_toInt (by omega)] at this; exact absurd this (by rw [show (-5 : Int32).toInt = -5 by decide]; omega)
  rcases hy with rfl | ⟨h, hh, rfl⟩
  · rw [show hs_y0 x (-1) = -5 from if_pos rfl]
    cases o with
    | none => exact ⟨fun _ => rfl, fun _ => rfl⟩
    | some z => exact ⟨fun q => absurd q (n5 z (ho z rfl)), fun q => absurd q (n1 z (ho z rfl))⟩
  · rw [show hs_y0 x (nI h) = nI h from if_neg (n1 h hh)]
    cases o with
    | none => exact ⟨fun q => absurd q.symm (n5 h hh), fun q => absurd q.symm (n1 h hh)⟩
    | some z => exact ⟨fun q => q, fun q => q⟩
theorem m_M_isSeen_in {n : Nat} {Q : Option Value → hg_M → Prop} (hX : hg_XS T X) (hR : hg_SR T Rf) (hO : hs_ok T σ) (hw : hs_wk σ ≤ 9999) (hT : hs_MT T tw I) (hb : hs_Lb σ a0 a2 a4) (hM : hs_MG σ a0 a2 a4 I) (hn : n ≤ 12) (hL : ∀ i, i < a0.1 → (∃ m : Nat, m ≤ 12 ∧ a0.2.1 i = nI m) ∧ (a0.2.2 i = -1 ∨ ∃ h : Nat, h < hs_n σ ∧ a0.2.2 i = nI h)) (K : ∀ I2 : Nat → Nat → Nat → Int32, hs_MS (hs_th tw σ n) I2 → hm_t I2 I → hg_WP l E (d + 7) Y_M_isSeen 0 0 59 [some (.ref (hg_ad E 21 0)), some (.int (if hs_B (se_Q tw σ a0 n a0.1) = true then 1 else 0 : Int32)), some (.int (nI n)), some (.int (nI a0.1))] [] (I2, Lg, Rf, X) (Q)) : ∀ (k i : Nat) (I1 : Nat → Nat → Nat → Int32), i + k = a0.1 → hs_MS (hs_th tw σ n) I1 → hm_t I1 I → hg_WP l E (d + 7) Y_M_isSeen 0 0 20 [some (.ref (hg_ad E 21 0)), some (.int (if hs_B (se_Q tw σ a0 n i) = true then 1 else 0 : Int32)), some (.int (nI n)), some (.int (nI i))] [] (I1, Lg, Rf, X) (Q) := by
  have hn6 := hO.1
  obtain ⟨hO2, hw2, hn2, -⟩ := hs_th_all (tw := tw) hO n
  have hb0 := hb.2.1
  intro k
  induction k with
  | zero =>
    intro i I1 hik hS ht
    have hl := hM.2.1.kp (ht.2.1 30 (by omega)) (ht.2.2 16 (by omega)) (ht.2.2 17 (by omega))
    obtain rfl : i = a0.1 := by omega
    refine hg_iload3 d_M_isSeen_20 ?_
    refine hg_aload0 d_M_isSeen_21 ?_
    refine hg_getI d_M_isSeen_22 f_M_282 rfl rfl (hX.lt (n := 1) ⟨by decide, by decide⟩ rfl (by omega)) ?_
    refine hg_eq1 (y := nI a0.1) (hl.1) ?_
    refine hg_icmp_ge (tgt := 59) d_M_isSeen_25 (by decide) (fun h_1 => ?_) (fun h_1 => absurd (Int32.le_refl _) h_1)
    exact K I1 hS ht
  | succ k ih =>
    intro i I1 hik hS ht
    have hl := hM.2.1.kp (ht.2.1 30 (by omega)) (ht.2.2 16 (by omega)) (ht.2.2 17 (by omega))
    obtain ⟨l1, l2⟩ := hl.2 i (by omega)
    obtain ⟨-, hy⟩ := hL i (by omega)
    refine hg_iload3 d_M_isSeen_20 ?_
    refine hg_aload0 d_M_isSeen_21 ?_
    refine hg_getI d_M_isSeen_22 f_M_282 rfl rfl (hX.lt (n := 1) ⟨by decide, by decide⟩ rfl (by omega)) ?_
    refine hg_eq1 (y := nI a0.1) (hl.1) ?_
    refine hg_icmp_ge (tgt := 59) d_M_isSeen_25 (by decide) (fun h_2 => absurd h_2 (nI_ge (by omega) (by omega))) (fun h_2 => ?_)
    refine hg_aload0 d_M_isSeen_28 ?_
    refine hg_getR d_M_isSeen_29 f_M_64 rfl rfl (hX.lt (n := 1) ⟨by decide, by decide⟩ rfl (by omega)) (hR.m (j := 31) (q := (22, 16)) rfl) ?_
    refine hg_iload3 d_M_isSeen_32 ?_
    refine hg_iald_n (j := i) d_M_isSeen_33 rfl rfl (hX.lt (n := 28) ⟨by decide, by decide⟩ rfl (by omega)) (hX.jn (n := 5) (by decide) rfl (by omega)) ?_
    refine hg_eq1 (y := a0.2.1 i) (l1) ?_
    refine hg_iload2 d_M_isSeen_34 ?_
    refine hg_icmp_ne (tgt := 53) d_M_isSeen_35 (by decide) (fun he => ?_) (fun he => ?_)
    · refine hg_iinc3 (v := nI (i + 1)) d_M_isSeen_53 rfl (nI_add _ _) ?_
      refine hg_goto (tgt := 20) d_M_isSeen_56 (by decide) ?_
      rw [hs_B_cg (se_Q1 (tw := tw) (σ := σ) (a := a0) (n := n) (i := i) (fun z => absurd z he))]
      exact ih (i + 1) I1 (by omega) hS ht
    · replace he := Decidable.not_not.mp he
      refine hg_aload0 d_M_isSeen_38 ?_
      refine hg_cVi d_M_isSeen_39 l_M_254 rfl rfl (hX.lt (n := 1) ⟨by decide, by decide⟩ rfl (by omega)) rfl (Nat.le_of_ble_eq_true rfl) (m_M_host hX hR hS hO2 (hT.t ht) (by omega)) rfl ?_
      rintro _ _ ⟨rfl, I3, rfl, hq3⟩
      have hov := se_hov (x := a0.2.1 i) (fun x hx => by have := hs_ho_lt (tw := tw) hO2 hx; omega) (hy.imp id (fun ⟨h, h1, h2⟩ => ⟨h, by omega, h2⟩))
      refine hg_aload0 d_M_isSeen_42 ?_
      refine hg_getR d_M_isSeen_43 f_M_67 rfl rfl (hX.lt (n := 1) ⟨by decide, by decide⟩ rfl (by omega)) (hR.m (j := 32) (q := (22, 17)) rfl) ?_
      refine hg_iload3 d_M_isSeen_46 ?_
      refine hg_iald_n (j := i) d_M_isSeen_47 rfl rfl (hX.lt (n := 28) ⟨by decide, by decide⟩ rfl (by omega)) (hX.jn (n := 5) (by decide) rfl (by omega)) ?_
      refine hg_eq1 (y := hs_y0 (a0.2.1 i) (a0.2.2 i)) (by rw [hq3 22 (by decide)]; exact l2) ?_
      refine hg_icmp_eq (tgt := 53) d_M_isSeen_48 (by decide) (fun hq => ?_) (fun hq => ?_)
      · refine hg_iinc3 (v := nI (i + 1)) d_M_isSeen_53 rfl (nI_add _ _) ?_
        refine hg_goto (tgt := 20) d_M_isSeen_56 (by decide) ?_
        rw [hs_B_cg (se_Q1 (tw := tw) (σ := σ) (a := a0) (n := n) (i := i) (fun _ => hov.mp hq))]
        exact ih (i + 1) I3 (by omega) (hS.e hq3) (hq3.t.tr ht)
      · refine hg_iconst (v := 0) d_M_isSeen_51 (by decide) ?_
        refine hg_istore1 d_M_isSeen_52 rfl ?_
        refine hg_iinc3 (v := nI (i + 1)) d_M_isSeen_53 rfl (nI_add _ _) ?_
        refine hg_goto (tgt := 20) d_M_isSeen_56 (by decide) ?_
        have hno : ¬ hs_B (se_Q tw σ a0 n (i + 1)) = true := fun z => hq (hov.mpr ((hs_B_t.mp z).2 i (by omega) he))
        have := ih (i + 1) I3 (by omega) (hS.e hq3) (hq3.t.tr ht)
        rwa [if_neg hno] at this
theorem m_M_isSeen_out (hX : hg_XS T X) (hR : hg_SR T Rf) (hO : hs_ok T σ) (hw : hs_wk σ ≤ 9999) (hT : hs_MT T tw I) (hb : hs_Lb σ a0 a2 a4) (hM : hs_MG σ a0 a2 a4 I) (hL : ∀ i, i < a0.1 → (∃ m : Nat, m ≤ 12 ∧ a0.2.1 i = nI m) ∧ (a0.2.2 i = -1 ∨ ∃ h : Nat, h < hs_n σ ∧ a0.2.2 i = nI h)) : ∀ (k n : Nat) (a3 : Option Value) (I1 : Nat → Nat → Nat → Int32), n + k = 13 → hs_MS (hs_th tw σ (n - 1)) I1 → hm_t I1 I → hg_WP l E (d + 7) Y_M_isSeen 0 0 4 [some (.ref (hg_ad E 21 0)), some (.int (if hs_B (se_P tw σ a0 n) = true then 1 else 0 : Int32)), some (.int (nI n)), a3] [] (I1, Lg, Rf, X) (hg_i (fun v M' => v = (if sp_seen tw σ a0 = true then 1 else 0) ∧ ∃ I' : Nat → Nat → Nat → Int32, M' = (I', Lg, Rf, X) ∧ hm_t I' I)) := by
  have hn6 := hO.1
  intro k
  induction k with
  | zero =>
    intro n a3 I1 hnk hS ht
    obtain rfl : n = 13 := by omega
    refine hg_iload2 d_M_isSeen_4 ?_
    refine hg_bipush (v := 13) d_M_isSeen_5 (by decide) ?_
    refine hg_icmp_ge (tgt := 65) d_M_isSeen_7 (by decide) (fun h_1 => ?_) (fun h_1 => absurd (by decide) h_1)
    refine hg_iload1 d_M_isSeen_65 ?_
    refine hg_ireturn d_M_isSeen_66 rfl (by split <;> rfl) ?_
    refine ⟨?_, I1, rfl, ht⟩
    have e13 : hs_B (se_P tw σ a0 13) = sp_seen tw σ a0 := by
      unfold sp_seen
      exact hs_B_cg ⟨fun h i hi m hm e => h i hi m (by omega) e, fun h i hi m hm e => h i hi m (by omega) e⟩
    rw [e13]
  | succ k ih =>
    intro n a3 I1 hnk hS ht
    refine hg_iload2 d_M_isSeen_4 ?_
    refine hg_bipush (v := 13) d_M_isSeen_5 (by decide) ?_
    refine hg_icmp_ge (tgt := 65) d_M_isSeen_7 (by decide) (fun h_2 => absurd h_2 (nI_ge (a := n) (b := 13) (by omega) (by decide))) (fun h_2 => ?_)
    refine hg_iload2 d_M_isSeen_10 ?_
    refine hg_if_le (tgt := 18) d_M_isSeen_11 (by decide) (fun h0 => ?_) (fun h0 => ?_)
    · have hi0 : n = 0 := Nat.le_zero.mp (Nat.le_of_not_lt (fun z => nI_ge (a := 0) (b := n) z (by omega) h0))
      refine hg_iconst (v := 0) d_M_isSeen_18 (by decide) ?_
      refine hg_istore3 d_M_isSeen_19 rfl ?_
      rw [hs_B_cg (se_Q0 (tw := tw) (σ := σ) (a := a0) (n := n))]
      refine m_M_isSeen_in hX hR hO hw hT hb hM (by omega) hL ?_ a0.1 0 I1 (Nat.zero_add _) (by rw [hi0] at hS ⊢; exact hS) ht
      intro I4 hM4 ht4
      rw [hs_B_cg (se_Qn (tw := tw) (σ := σ) (a := a0) (n := n) (by omega))]
      refine hg_iinc2 (v := nI (n + 1)) d_M_isSeen_59 rfl (nI_add _ _) ?_
      refine hg_goto (tgt := 4) d_M_isSeen_62 (by decide) ?_
      exact ih (n + 1) _ I4 (by omega) hM4 ht4
    · have hi0 : 0 < n := Nat.pos_of_ne_zero (fun z => h0 (by rw [z]; decide))
      obtain ⟨hO1, hw1, -, -⟩ := hs_th_all (tw := tw) hO (n - 1)
      refine hg_aload0 d_M_isSeen_14 ?_
      refine hg_cVv d_M_isSeen_15 l_M_257 rfl rfl (hX.lt (n := 1) ⟨by decide, by decide⟩ rfl (by omega)) rfl (Nat.le_of_ble_eq_true rfl) (m_M_goesThursday hX hR hS hO1 (hT.t ht) (by omega)) rfl ?_
      rintro _ ⟨I2, rfl, hM2, ht2⟩
      have eth : hs_th tw σ n = hs_thu tw (hs_th tw σ (n - 1)) := by (cases n with | zero => exact absurd hi0 (Nat.not_lt_zero _) | succ j => rfl)
      rw [← eth] at hM2
      refine hg_iconst (v := 0) d_M_isSeen_18 (by decide) ?_
      refine hg_istore3 d_M_isSeen_19 rfl ?_
      rw [hs_B_cg (se_Q0 (tw := tw) (σ := σ) (a := a0) (n := n))]
      refine m_M_isSeen_in hX hR hO hw hT hb hM (by omega) hL ?_ a0.1 0 I2 (Nat.zero_add _) hM2 (ht2.tr ht)
      intro I4 hM4 ht4
      rw [hs_B_cg (se_Qn (tw := tw) (σ := σ) (a := a0) (n := n) (by omega))]
      refine hg_iinc2 (v := nI (n + 1)) d_M_isSeen_59 rfl (nI_add _ _) ?_
      refine hg_goto (tgt := 4) d_M_isSeen_62 (by decide) ?_
      exact ih (n + 1) _ I4 (by omega) hM4 ht4
theorem m_M_isSeen (hX : hg_XS T X) (hR : hg_SR T Rf) (hO : hs_ok T σ) (hw : hs_wk σ ≤ 9999) (hT : hs_MT T tw I) (hb : hs_Lb σ a0 a2 a4) (hM : hs_MG σ a0 a2 a4 I) (hL : ∀ i, i < a0.1 → (∃ m : Nat, m ≤ 12 ∧ a0.2.1 i = nI m) ∧ (a0.2.2 i = -1 ∨ ∃ h : Nat, h < hs_n σ ∧ a0.2.2 i = nI h)) : hg_MC l E (d + 8) Y_M_isSeen 0 0 [.ref (hg_ad E 21 0)] (I, Lg, Rf, X) (hg_i (fun v M' => v = (if sp_seen tw σ a0 = true then 1 else 0) ∧ ∃ I' : Nat → Nat → Nat → Int32, M' = (I', Lg, Rf, X) ∧ hm_t I' I)) := by
  refine hg_mc k_M_isSeen (Nat.le_of_ble_eq_true rfl) ?_
  show hg_WP l E _ Y_M_isSeen 0 0 0 [some (.ref (hg_ad E 21 0)), none, none, none] [] (I, Lg, Rf, X) _
  refine hg_iconst (v := 1) d_M_isSeen_0 (by decide) ?_
  refine hg_istore1 d_M_isSeen_1 rfl ?_
  refine hg_iconst (v := 0) d_M_isSeen_2 (by decide) ?_
  refine hg_istore2 d_M_isSeen_3 rfl ?_
  have K := m_M_isSeen_out (l := l) (E := E) (d := d) (Lg := Lg) (tw := tw) hX hR hO hw hT hb hM hL 13 0 none I (by omega) hM.1 hm_t.rf
  rw [if_pos (hs_B_t.mpr (show se_P tw σ a0 0 from fun i hi m hm => absurd hm (Nat.not_lt_zero _)))] at K
  exact K

theorem m_M_can0 {h b : Nat} (hX : hg_XS T X) (hR : hg_SR T Rf) (hO : hs_ok T σ) (hw : hs_wk σ ≤ 9999) (hT : hs_MT T tw I) (hb : hs_Lb σ a0 a2 a4) (hh : h < hs_n σ) (hb2 : b < 2) (hL : ∀ i, i < a0.1 → (∃ m : Nat, m ≤ 12 ∧ a0.2.1 i = nI m) ∧ (a0.2.2 i = -1 ∨ ∃ h : Nat, h < hs_n σ ∧ a0.2.2 i = nI h)) : ∀ (s c : Nat) (L : Int32) (I1 : Nat → Nat → Nat → Int32), s ≤ 100 → c + hs_cnt (fun k => sp_seen tw (hs_shv σ h 2 (nI k)) a0) s = hs_cnt (fun k => sp_seen tw (hs_shv σ h 2 (nI k)) a0) 100 → hs_fst (fun k => sp_seen tw (hs_shv σ h 2 (nI k)) a0) 100 = (if hs_cnt (fun k => sp_seen tw (hs_shv σ h 2 (nI k)) a0) s = 0 then L else hs_fst (fun k => sp_seen tw (hs_shv σ h 2 (nI k)) a0) s) → hs_MG σ a0 a2 a4 I1 → hs_MI σ a0 a2 a4 (I1 22 24) → hm_s I1 I → hg_WP l E (d + 8) Y_M_can 0 0 56 [some (.ref (hg_ad E 21 0)), some (.int (nI h)), some (.int 0), some (.int (nI b)), some (.int (nI c)), some (.int L), some (.int (nI s - 1))] [] (I1, Lg, Rf, X) (hg_i (fun v M' => v = (if b = 0 then nI (hs_cnt (fun k => sp_seen tw (hs_shv σ h 2 (nI k)) a0) 100) else hs_fst (fun k => sp_seen tw (hs_shv σ h 2 (nI k)) a0) 100) ∧ ∃ I' : Nat → Nat → Nat → Int32, M' = (I', Lg, Rf, X) ∧ hs_MG σ a0 a2 a4 I' ∧ hm_s I' I)) := by
  have hn6 := hO.1
  have hcN := hs_cnt_le (fun k => sp_seen tw (hs_shv σ h 2 (nI k)) a0) 100
  intro s
  induction s with
  | zero =>
    intro c L I1 hsN hc hL2 hg hi hs
    refine hg_iload6 d_M_can_56 ?_
    refine hg_if_lt (tgt := 112) d_M_can_58 (by decide) (fun h_1 => ?_) (fun h_1 => absurd (by decide) h_1)
    refine hg_iload3 d_M_can_112 ?_
    refine hg_if_ne (tgt := 121) d_M_can_113 (by decide) (fun hb0 => ?_) (fun hb0 => ?_)
    · refine hg_iload5 d_M_can_121 ?_
      refine hg_ireturn d_M_can_123 rfl rfl ?_
      refine ⟨?_, I1, rfl, hg, hs⟩
      have h2 : b = 0 ∨ b = 1 := by omega
      rw [show hs_fst (fun k => sp_seen tw (hs_shv σ h 2 (nI k)) a0) 100 = L from hL2.trans (if_pos rfl), show hs_cnt (fun k => sp_seen tw (hs_shv σ h 2 (nI k)) a0) 100 = c from hc.symm]
      rcases h2 with rfl | rfl
      · first | exact absurd rfl hb0 | exact (if_pos rfl).symm
      · first | exact absurd hb0 (by decide) | exact (if_neg (by decide)).symm
    · replace hb0 := Decidable.not_not.mp hb0
      refine hg_iload4 d_M_can_116 ?_
      refine hg_goto (tgt := 123) d_M_can_118 (by decide) ?_
      refine hg_ireturn d_M_can_123 rfl rfl ?_
      refine ⟨?_, I1, rfl, hg, hs⟩
      have h2 : b = 0 ∨ b = 1 := by omega
      rw [show hs_fst (fun k => sp_seen tw (hs_shv σ h 2 (nI k)) a0) 100 = L from hL2.trans (if_pos rfl), show hs_cnt (fun k => sp_seen tw (hs_shv σ h 2 (nI k)) a0) 100 = c from hc.symm]
      rcases h2 with rfl | rfl
      · first | exact absurd rfl hb0 | exact (if_pos rfl).symm
      · first | exact absurd hb0 (by decide) | exact (if_neg (by decide)).symm
  | succ s ih =>
    intro c L I1 hsN hc hL2 hg hi hs
    rw [nI_pred s]
    refine hg_iload6 d_M_can_56 ?_
    refine hg_if_lt (tgt := 112) d_M_can_58 (by decide) (fun h_2 => absurd h_2 (Int32.not_lt.mpr (nI_le (a := 0) (b := s) (Nat.zero_le _) (by omega)))) (fun h_2 => ?_)
    refine hg_iload2 d_M_can_61 ?_
    refine hg_if_ne (tgt := 76) d_M_can_62 (by decide) (fun h_3 => absurd h_3 (by decide)) (fun h_3 => ?_)
    refine hg_aload0 d_M_can_65 ?_
    refine hg_getR d_M_can_66 f_M_18 rfl rfl (hX.lt (n := 1) ⟨by decide, by decide⟩ rfl (by omega)) (hR.m (j := 3) (q := (22, 2)) rfl) ?_
    refine hg_iload1 d_M_can_69 ?_
    refine hg_iload6 d_M_can_70 ?_
    refine hg_iast_n (j := h) d_M_can_72 rfl rfl (hX.lt (n := 28) ⟨by decide, by decide⟩ rfl (by omega)) (hX.jn (n := 6) (by decide) rfl (by omega)) ?_
    refine hg_goto (tgt := 84) d_M_can_73 (by decide) ?_
    refine hg_aload0 d_M_can_84 ?_
    have hO2 : hs_ok T (hs_shv σ h 2 (nI s)) := hO.shv (by decide) (by decide) (fun z => absurd z (by decide))
    have hg2 : hs_MG (hs_shv σ h 2 (nI s)) a0 a2 a4 (hg_u3 I1 22 2 h (nI s)) := hg.n (hg.1.shv (by decide)) (hm_n.rf.u22 (by decide))
    have hs2 : hm_s (hg_u3 I1 22 2 h (nI s)) I := (hm_n.rf.u22 (by decide)).s.tr hs
    have hi2 : hs_MI σ a0 a2 a4 ((hg_u3 I1 22 2 h (nI s)) 22 24) := by rw [show (hg_u3 I1 22 2 h (nI s)) 22 24 = I1 22 24 from funext fun z => hg_u3k (by decide)]; exact hi
    refine hg_cVi d_M_can_85 l_M_285 rfl rfl (hX.lt (n := 1) ⟨by decide, by decide⟩ rfl (by omega)) rfl (Nat.le_of_ble_eq_true rfl) (m_M_isSeen (tw := tw) hX hR hO2 hw (hT.s hs2) hb hg2 hL) rfl ?_
    rintro _ _ ⟨rfl, I3, rfl, ht3⟩
    by_cases hu : sp_seen tw (hs_shv σ h 2 (nI s)) a0 = true
    · refine hg_eq1 (y := 1) (if_pos hu) ?_
      refine hg_if_eq (tgt := 98) d_M_can_88 (by decide) (fun h_4 => absurd h_4 (by decide)) (fun h_4 => ?_)
      refine hg_iinc4 (v := nI (c + 1)) d_M_can_91 rfl (nI_add _ _) ?_
      refine hg_iload6 d_M_can_94 ?_
      refine hg_istore5 d_M_can_96 rfl ?_
      refine hg_aload0 d_M_can_98 ?_
      refine hg_aload0 d_M_can_99 ?_
      refine hg_getR d_M_can_100 f_M_88 rfl rfl (hX.lt (n := 1) ⟨by decide, by decide⟩ rfl (by omega)) (hR.m (j := 43) (q := (22, 24)) rfl) ?_
      refine hg_cVv d_M_can_103 l_M_267 rfl rfl (hX.lt (n := 1) ⟨by decide, by decide⟩ rfl (by omega)) rfl (Nat.le_of_ble_eq_true rfl) (m_M_again24_ hX hR (by rw [ht3.2.2 24 (by decide)]; exact hi2) hb) rfl ?_
      rintro _ ⟨I4, rfl, g4, hk4⟩
      have hi4 : hs_MI σ a0 a2 a4 (I4 22 24) := by rw [hk4.2.2 24 (by decide), ht3.2.2 24 (by decide)]; exact hi2
      have hs4 := hk4.s.tr (ht3.s.tr hs2)
      refine hg_iinc6 (v := (nI s) + (-1)) d_M_can_106 rfl rfl ?_
      refine hg_goto (tgt := 56) d_M_can_109 (by decide) ?_
      rw [show nI s + (-1) = nI s - 1 from (Int32.sub_eq_add_neg _ _).symm]
      exact ih (c + 1) (nI s) I4 (by omega) (by rw [← hc, show hs_cnt (fun k => sp_seen tw (hs_shv σ h 2 (nI k)) a0) (s + 1) = hs_cnt (fun k => sp_seen tw (hs_shv σ h 2 (nI k)) a0) s + 1 from if_pos hu]; omega) (hs_dn_t hL2 hu) g4 hi4 hs4
    · refine hg_eq1 (y := 0) (if_neg hu) ?_
      refine hg_if_eq (tgt := 98) d_M_can_88 (by decide) (fun h_5 => ?_) (fun h_5 => absurd (by decide) h_5)
      refine hg_aload0 d_M_can_98 ?_
      refine hg_aload0 d_M_can_99 ?_
      refine hg_getR d_M_can_100 f_M_88 rfl rfl (hX.lt (n := 1) ⟨by decide, by decide⟩ rfl (by omega)) (hR.m (j := 43) (q := (22, 24)) rfl) ?_
      refine hg_cVv d_M_can_103 l_M_267 rfl rfl (hX.lt (n := 1) ⟨by decide, by decide⟩ rfl (by omega)) rfl (Nat.le_of_ble_eq_true rfl) (m_M_again24_ hX hR (by rw [ht3.2.2 24 (by decide)]; exact hi2) hb) rfl ?_
      rintro _ ⟨I4, rfl, g4, hk4⟩
      have hi4 : hs_MI σ a0 a2 a4 (I4 22 24) := by rw [hk4.2.2 24 (by decide), ht3.2.2 24 (by decide)]; exact hi2
      have hs4 := hk4.s.tr (ht3.s.tr hs2)
      refine hg_iinc6 (v := (nI s) + (-1)) d_M_can_106 rfl rfl ?_
      refine hg_goto (tgt := 56) d_M_can_109 (by decide) ?_
      rw [show nI s + (-1) = nI s - 1 from (Int32.sub_eq_add_neg _ _).symm]
      exact ih c L I4 (by omega) (by rw [← hc, show hs_cnt (fun k => sp_seen tw (hs_shv σ h 2 (nI k)) a0) (s + 1) = hs_cnt (fun k => sp_seen tw (hs_shv σ h 2 (nI k)) a0) s from if_neg hu]) (hs_dn_f hL2 hu) g4 hi4 hs4
theorem m_M_can1 {h b : Nat} (hX : hg_XS T X) (hR : hg_SR T Rf) (hO : hs_ok T σ) (hw : hs_wk σ ≤ 9999) (hT : hs_MT T tw I) (hb : hs_Lb σ a0 a2 a4) (hh : h < hs_n σ) (hb2 : b < 2) (hL : ∀ i, i < a0.1 → (∃ m : Nat, m ≤ 12 ∧ a0.2.1 i = nI m) ∧ (a0.2.2 i = -1 ∨ ∃ h : Nat, h < hs_n σ ∧ a0.2.2 i = nI h)) : ∀ (s c : Nat) (L : Int32) (I1 : Nat → Nat → Nat → Int32), s ≤ 10 → c + hs_cnt (fun k => sp_seen tw (hs_shv σ h 1 (nI k)) a0) s = hs_cnt (fun k => sp_seen tw (hs_shv σ h 1 (nI k)) a0) 10 → hs_fst (fun k => sp_seen tw (hs_shv σ h 1 (nI k)) a0) 10 = (if hs_cnt (fun k => sp_seen tw (hs_shv σ h 1 (nI k)) a0) s = 0 then L else hs_fst (fun k => sp_seen tw (hs_shv σ h 1 (nI k)) a0) s) → hs_MG σ a0 a2 a4 I1 → hs_MI σ a0 a2 a4 (I1 22 24) → hm_s I1 I → hg_WP l E (d + 8) Y_M_can 0 0 56 [some (.ref (hg_ad E 21 0)), some (.int (nI h)), some (.int 1), some (.int (nI b)), some (.int (nI c)), some (.int L), some (.int (nI s - 1))] [] (I1, Lg, Rf, X) (hg_i (fun v M' => v = (if b = 0 then nI (hs_cnt (fun k => sp_seen tw (hs_shv σ h 1 (nI k)) a0) 10) else hs_fst (fun k => sp_seen tw (hs_shv σ h 1 (nI k)) a0) 10) ∧ ∃ I' : Nat → Nat → Nat → Int32, M' = (I', Lg, Rf, X) ∧ hs_MG σ a0 a2 a4 I' ∧ hm_s I' I)) := by
  have hn6 := hO.1
  have hcN := hs_cnt_le (fun k => sp_seen tw (hs_shv σ h 1 (nI k)) a0) 10
  intro s
  induction s with
  | zero =>
    intro c L I1 hsN hc hL2 hg hi hs
    refine hg_iload6 d_M_can_56 ?_
    refine hg_if_lt (tgt := 112) d_M_can_58 (by decide) (fun h_1 => ?_) (fun h_1 => absurd (by decide) h_1)
    refine hg_iload3 d_M_can_112 ?_
    refine hg_if_ne (tgt := 121) d_M_can_113 (by decide) (fun hb0 => ?_) (fun hb0 => ?_)
    · refine hg_iload5 d_M_can_121 ?_
      refine hg_ireturn d_M_can_123 rfl rfl ?_
      refine ⟨?_, I1, rfl, hg, hs⟩
      have h2 : b = 0 ∨ b = 1 := by omega
      rw [show hs_fst (fun k => sp_seen tw (hs_shv σ h 1 (nI k)) a0) 10 = L from hL2.trans (if_pos rfl), show hs_cnt (fun k => sp_seen tw (hs_shv σ h 1 (nI k)) a0) 10 = c from hc.symm]
      rcases h2 with rfl | rfl
      · first | exact absurd rfl hb0 | exact (if_pos rfl).symm
      · first | exact absurd hb0 (by decide) | exact (if_neg (by decide)).symm
    · replace hb0 := Decidable.not_not.mp hb0
      refine hg_iload4 d_M_can_116 ?_
      refine hg_goto (tgt := 123) d_M_can_118 (by decide) ?_
      refine hg_ireturn d_M_can_123 rfl rfl ?_
      refine ⟨?_, I1, rfl, hg, hs⟩
      have h2 : b = 0 ∨ b = 1 := by omega
      rw [show hs_fst (fun k => sp_seen tw (hs_shv σ h 1 (nI k)) a0) 10 = L from hL2.trans (if_pos rfl), show hs_cnt (fun k => sp_seen tw (hs_shv σ h 1 (nI k)) a0) 10 = c from hc.symm]
      rcases h2 with rfl | rfl
      · first | exact absurd rfl hb0 | exact (if_pos rfl).symm
      · first | exact absurd hb0 (by decide) | exact (if_neg (by decide)).symm
  | succ s ih =>
    intro c L I1 hsN hc hL2 hg hi hs
    rw [nI_pred s]
    refine hg_iload6 d_M_can_56 ?_
    refine hg_if_lt (tgt := 112) d_M_can_58 (by decide) (fun h_2 => absurd h_2 (Int32.not_lt.mpr (nI_le (a := 0) (b := s) (Nat.zero_le _) (by omega)))) (fun h_2 => ?_)
    refine hg_iload2 d_M_can_61 ?_
    refine hg_if_ne (tgt := 76) d_M_can_62 (by decide) (fun h_3 => ?_) (fun h_3 => absurd (by decide) h_3)
    refine hg_aload0 d_M_can_76 ?_
    refine hg_getR d_M_can_77 f_M_15 rfl rfl (hX.lt (n := 1) ⟨by decide, by decide⟩ rfl (by omega)) (hR.m (j := 2) (q := (22, 1)) rfl) ?_
    refine hg_iload1 d_M_can_80 ?_
    refine hg_iload6 d_M_can_81 ?_
    refine hg_iast_n (j := h) d_M_can_83 rfl rfl (hX.lt (n := 28) ⟨by decide, by decide⟩ rfl (by omega)) (hX.jn (n := 6) (by decide) rfl (by omega)) ?_
    refine hg_aload0 d_M_can_84 ?_
    have hO2 : hs_ok T (hs_shv σ h 1 (nI s)) := hO.shv (by decide) (by decide) (fun z => absurd z (by decide))
    have hg2 : hs_MG (hs_shv σ h 1 (nI s)) a0 a2 a4 (hg_u3 I1 22 1 h (nI s)) := hg.n (hg.1.shv (by decide)) (hm_n.rf.u22 (by decide))
    have hs2 : hm_s (hg_u3 I1 22 1 h (nI s)) I := (hm_n.rf.u22 (by decide)).s.tr hs
    have hi2 : hs_MI σ a0 a2 a4 ((hg_u3 I1 22 1 h (nI s)) 22 24) := by rw [show (hg_u3 I1 22 1 h (nI s)) 22 24 = I1 22 24 from funext fun z => hg_u3k (by decide)]; exact hi
    refine hg_cVi d_M_can_85 l_M_285 rfl rfl (hX.lt (n := 1) ⟨by decide, by decide⟩ rfl (by omega)) rfl (Nat.le_of_ble_eq_true rfl) (m_M_isSeen (tw := tw) hX hR hO2 hw (hT.s hs2) hb hg2 hL) rfl ?_
    rintro _ _ ⟨rfl, I3, rfl, ht3⟩
    by_cases hu : sp_seen tw (hs_shv σ h 1 (nI s)) a0 = true
    · refine hg_eq1 (y := 1) (if_pos hu) ?_
      refine hg_if_eq (tgt := 98) d_M_can_88 (by decide) (fun h_4 => absurd h_4 (by decide)) (fun h_4 => ?_)
      refine hg_iinc4 (v := nI (c + 1)) d_M_can_91 rfl (nI_add _ _) ?_
      refine hg_iload6 d_M_can_94 ?_
      refine hg_istore5 d_M_can_96 rfl ?_
      refine hg_aload0 d_M_can_98 ?_
      refine hg_aload0 d_M_can_99 ?_
      refine hg_getR d_M_can_100 f_M_88 rfl rfl (hX.lt (n := 1) ⟨by decide, by decide⟩ rfl (by omega)) (hR.m (j := 43) (q := (22, 24)) rfl) ?_
      refine hg_cVv d_M_can_103 l_M_267 rfl rfl (hX.lt (n := 1) ⟨by decide, by decide⟩ rfl (by omega)) rfl (Nat.le_of_ble_eq_true rfl) (m_M_again24_ hX hR (by rw [ht3.2.2 24 (by decide)]; exact hi2) hb) rfl ?_
      rintro _ ⟨I4, rfl, g4, hk4⟩
      have hi4 : hs_MI σ a0 a2 a4 (I4 22 24) := by rw [hk4.2.2 24 (by decide), ht3.2.2 24 (by decide)]; exact hi2
      have hs4 := hk4.s.tr (ht3.s.tr hs2)
      refine hg_iinc6 (v := (nI s) + (-1)) d_M_can_106 rfl rfl ?_
      refine hg_goto (tgt := 56) d_M_can_109 (by decide) ?_
      rw [show nI s + (-1) = nI s - 1 from (Int32.sub_eq_add_neg _ _).symm]
      exact ih (c + 1) (nI s) I4 (by omega) (by rw [← hc, show hs_cnt (fun k => sp_seen tw (hs_shv σ h 1 (nI k)) a0) (s + 1) = hs_cnt (fun k => sp_seen tw (hs_shv σ h 1 (nI k)) a0) s + 1 from if_pos hu]; omega) (hs_dn_t hL2 hu) g4 hi4 hs4
    · refine hg_eq1 (y := 0) (if_neg hu) ?_
      refine hg_if_eq (tgt := 98) d_M_can_88 (by decide) (fun h_5 => ?_) (fun h_5 => absurd (by decide) h_5)
      refine hg_aload0 d_M_can_98 ?_
      refine hg_aload0 d_M_can_99 ?_
      refine hg_getR d_M_can_100 f_M_88 rfl rfl (hX.lt (n := 1) ⟨by decide, by decide⟩ rfl (by omega)) (hR.m (j := 43) (q := (22, 24)) rfl) ?_
      refine hg_cVv d_M_can_103 l_M_267 rfl rfl (hX.lt (n := 1) ⟨by decide, by decide⟩ rfl (by omega)) rfl (Nat.le_of_ble_eq_true rfl) (m_M_again24_ hX hR (by rw [ht3.2.2 24 (by decide)]; exact hi2) hb) rfl ?_
      rintro _ ⟨I4, rfl, g4, hk4⟩
      have hi4 : hs_MI σ a0 a2 a4 (I4 22 24) := by rw [hk4.2.2 24 (by decide), ht3.2.2 24 (by decide)]; exact hi2
      have hs4 := hk4.s.tr (ht3.s.tr hs2)
      refine hg_iinc6 (v := (nI s) + (-1)) d_M_can_106 rfl rfl ?_
      refine hg_goto (tgt := 56) d_M_can_109 (by decide) ?_
      rw [show nI s + (-1) = nI s - 1 from (Int32.sub_eq_add_neg _ _).symm]
      exact ih c L I4 (by omega) (by rw [← hc, show hs_cnt (fun k => sp_seen tw (hs_shv σ h 1 (nI k)) a0) (s + 1) = hs_cnt (fun k => sp_seen tw (hs_shv σ h 1 (nI k)) a0) s from if_neg hu]) (hs_dn_f hL2 hu) g4 hi4 hs4
theorem m_M_can {x y z : Int32} (hX : hg_XS (gT G) X) (hR : hg_SR (gT G) Rf) (hM0 : hs_MR G I Lg) (hG : hs_gok G) : hg_MC l E (d + 9) Y_M_can 0 0 [.ref (hg_ad E 21 0), .int x, .int y, .int z] (I, Lg, Rf, X) (hg_i (fun v M' => hs_MP v (sp_can (gW G) (gN G) (gL G 0) x y z) G I Lg Rf X M')) := by
  have hM := hM0.1.1
  have hO := hG.1
  have hn6 := hO.1
  have hT := hM0.2.2.2.2.2.2.2
  have hw := hG.2.1
  have hL0 := hG.2.2.2.1 0 (by decide)
  have hL2 := hG.2.2.2.1 2 (by decide)
  have hL4 := hG.2.2.2.1 4 (by decide)
  replace hL0 : (gL G 0).1 ≤ 5 := hL0
  replace hL2 : (gL G 2).1 ≤ 10 := hL2
  replace hL4 : (gL G 4).1 ≤ 8 := hL4
  have hLb : hs_Lb (gN G) (gL G 0) (gL G 2) (gL G 4) := ⟨hn6, hL0, hL2, hL4⟩
  refine hg_mc k_M_can (Nat.le_of_ble_eq_true rfl) ?_
  show hg_WP l E _ Y_M_can 0 0 0 [some (.ref (hg_ad E 21 0)), some (.int x), some (.int y), some (.int z), none, none, none] [] (I, Lg, Rf, X) _
  refine hg_aload0 d_M_can_0 ?_
  refine hg_iload1 d_M_can_1 ?_
  refine hg_cVi d_M_can_2 l_M_115 rfl rfl (hX.lt (n := 1) ⟨by decide, by decide⟩ rfl (by omega)) rfl (Nat.le_of_ble_eq_true rfl) (m_M_isOne hX hM.1 hn6) rfl ?_
  rintro _ _ ⟨⟨hha, rfl⟩ | ⟨hha, rfl⟩, rfl⟩
  · obtain ⟨h, hh, eh⟩ := hha
    have iha : hs_ix (hs_n (gN G)) x = some h := by rw [eh]; exact hs_ix_s hh (by omega)
    subst eh
    show hg_WP l E _ Y_M_can 0 0 5 [some (.ref (hg_ad E 21 0)), some (.int (nI h)), some (.int y), some (.int z), none, none, none] [.int 1] (I, Lg, Rf, X) _
    refine hg_if_eq (tgt := 26) d_M_can_5 (by decide) (fun h_1 => absurd h_1 (by decide)) (fun h_1 => ?_)
    refine hg_iload2 d_M_can_8 ?_
    refine hg_iconst (v := 0) d_M_can_9 (by decide) ?_
    refine hg_iconst (v := 1) d_M_can_10 (by decide) ?_
    refine hg_cSi d_M_can_11 l_M_111 rfl (Nat.le_of_ble_eq_true rfl) (m_M_in0 (b := 1) (by decide)) rfl ?_
    rintro _ _ ⟨⟨hhb, rfl⟩ | ⟨hhb, rfl⟩, rfl⟩
    · obtain ⟨q, hq, eq⟩ := hhb
      have ihb : hs_ix 2 y = some q := by rw [eq]; exact hs_ix_s (by omega) (by decide)
      subst eq
      show hg_WP l E _ Y_M_can 0 0 14 [some (.ref (hg_ad E 21 0)), some (.int (nI h)), some (.int (nI q)), some (.int z), none, none, none] [.int 1] (I, Lg, Rf, X) _
      refine hg_if_eq (tgt := 26) d_M_can_14 (by decide) (fun h_2 => absurd h_2 (by decide)) (fun h_2 => ?_)
      refine hg_iload3 d_M_can_17 ?_
      refine hg_iconst (v := 0) d_M_can_18 (by decide) ?_
      refine hg_iconst (v := 1) d_M_can_19 (by decide) ?_
      refine hg_cSi d_M_can_20 l_M_111 rfl (Nat.le_of_ble_eq_true rfl) (m_M_in0 (b := 1) (by decide)) rfl ?_
      rintro _ _ ⟨⟨hhc, rfl⟩ | ⟨hhc, rfl⟩, rfl⟩
      · obtain ⟨b, hb, eb⟩ := hhc
        have ihc : hs_ix 2 z = some b := by rw [eb]; exact hs_ix_s (by omega) (by decide)
        subst eb
        show hg_WP l E _ Y_M_can 0 0 23 [some (.ref (hg_ad E 21 0)), some (.int (nI h)), some (.int (nI q)), some (.int (nI b)), none, none, none] [.int 1] (I, Lg, Rf, X) _
        refine hg_if_ne (tgt := 28) d_M_can_23 (by decide) (fun h_3 => ?_) (fun h_3 => absurd (by decide) h_3)
        have h6_q : q = 0 ∨ q = 1 := by omega
        rcases h6_q with rfl | rfl
        · show hg_WP l E _ Y_M_can 0 0 28 [some (.ref (hg_ad E 21 0)), some (.int (nI h)), some (.int 0), some (.int (nI b)), none, none, none] [] (I, Lg, Rf, X) _
          replace ihb : hs_ix 2 0 = some 0 := ihb
          refine hg_aload0 d_M_can_28 ?_
          refine hg_aload0 d_M_can_29 ?_
          refine hg_getR d_M_can_30 f_M_88 rfl rfl (hX.lt (n := 1) ⟨by decide, by decide⟩ rfl (by omega)) (hR.m (j := 43) (q := (22, 24)) rfl) ?_
          refine hg_cVv d_M_can_33 l_M_263 rfl rfl (hX.lt (n := 1) ⟨by decide, by decide⟩ rfl (by omega)) rfl (Nat.le_of_ble_eq_true rfl) (m_M_keep24_ hX hR hM0.1 hLb) rfl ?_
          rintro _ ⟨I1, rfl, hk1, hi⟩
          have g1 := hM0.1.r hk1 (by decide)
          have hT1 := hT.s (hk1.s (Or.inl rfl))
          refine hg_iconst (v := 0) d_M_can_36 (by decide) ?_
          refine hg_istore4 d_M_can_37 rfl ?_
          refine hg_bipush (v := (-5)) d_M_can_39 (by decide) ?_
          refine hg_istore5 d_M_can_41 rfl ?_
          refine hg_iload2 d_M_can_43 ?_
          refine hg_if_ne (tgt := 52) d_M_can_44 (by decide) (fun h_4 => absurd h_4 (by decide)) (fun h_4 => ?_)
          refine hg_bipush (v := 99) d_M_can_47 (by decide) ?_
          refine hg_goto (tgt := 54) d_M_can_49 (by decide) ?_
          refine hg_istore6 d_M_can_54 rfl ?_
          refine hg_WP_imp (m_M_can0 (tw := gW G) hX hR hO hw hT1 hLb hh (by omega) (hG.2.2.2.2.1 0 (by decide)) 100 0 (-5) I1 (Nat.le_refl _) (Nat.zero_add _) (hs_dn_0 _) g1 hi hm_s.rf) ?_
          rintro _ _ ⟨v, rfl, e, I4, rfl, hg4, hs4⟩
          have hs5 := hs4.tr (hk1.s (Or.inl rfl))
          refine ⟨v, rfl, ?_, I4, Lg, rfl, hM0.Z hg4 hs5, hs5.lo, fun _ _ => rfl⟩
          rw [e]; show _ = sp_can (gW G) (gN G) (gL G 0) (nI h) 0 (nI b); unfold sp_can; rw [iha, ihb, ihc]; rfl
        · show hg_WP l E _ Y_M_can 0 0 28 [some (.ref (hg_ad E 21 0)), some (.int (nI h)), some (.int 1), some (.int (nI b)), none, none, none] [] (I, Lg, Rf, X) _
          replace ihb : hs_ix 2 1 = some 1 := ihb
          refine hg_aload0 d_M_can_28 ?_
          refine hg_aload0 d_M_can_29 ?_
          refine hg_getR d_M_can_30 f_M_88 rfl rfl (hX.lt (n := 1) ⟨by decide, by decide⟩ rfl (by omega)) (hR.m (j := 43) (q := (22, 24)) rfl) ?_
          refine hg_cVv d_M_can_33 l_M_263 rfl rfl (hX.lt (n := 1) ⟨by decide, by decide⟩ rfl (by omega)) rfl (Nat.le_of_ble_eq_true rfl) (m_M_keep24_ hX hR hM0.1 hLb) rfl ?_
          rintro _ ⟨I1, rfl, hk1, hi⟩
          have g1 := hM0.1.r hk1 (by decide)
          have hT1 := hT.s (hk1.s (Or.inl rfl))
          refine hg_iconst (v := 0) d_M_can_36 (by decide) ?_
          refine hg_istore4 d_M_can_37 rfl ?_
          refine hg_bipush (v := (-5)) d_M_can_39 (by decide) ?_
          refine hg_istore5 d_M_can_41 rfl ?_
          refine hg_iload2 d_M_can_43 ?_
          refine hg_if_ne (tgt := 52) d_M_can_44 (by decide) (fun h_5 => ?_) (fun h_5 => absurd (by decide) h_5)
          refine hg_bipush (v := 9) d_M_can_52 (by decide) ?_
          refine hg_istore6 d_M_can_54 rfl ?_
          refine hg_WP_imp (m_M_can1 (tw := gW G) hX hR hO hw hT1 hLb hh (by omega) (hG.2.2.2.2.1 0 (by decide)) 10 0 (-5) I1 (Nat.le_refl _) (Nat.zero_add _) (hs_dn_0 _) g1 hi hm_s.rf) ?_
          rintro _ _ ⟨v, rfl, e, I4, rfl, hg4, hs4⟩
          have hs5 := hs4.tr (hk1.s (Or.inl rfl))
          refine ⟨v, rfl, ?_, I4, Lg, rfl, hM0.Z hg4 hs5, hs5.lo, fun _ _ => rfl⟩
          rw [e]; show _ = sp_can (gW G) (gN G) (gL G 0) (nI h) 1 (nI b); unfold sp_can; rw [iha, ihb, ihc]; rfl
      · have ihc : hs_ix 2 z = none := hs_ix_n2 hhc
        refine hg_if_ne (tgt := 28) d_M_can_23 (by decide) (fun h_6 => absurd h_6 (by decide)) (fun h_6 => ?_)
        refine hg_iconst (v := (-1)) d_M_can_26 (by decide) ?_
        refine hg_ireturn d_M_can_27 rfl rfl ?_
        refine ⟨?_, I, Lg, rfl, hM0, fun _ _ => rfl, fun _ _ => rfl⟩
        simp [sp_can, iha, ihb, ihc]
    · have ihb : hs_ix 2 y = none := hs_ix_n2 hhb
      refine hg_if_eq (tgt := 26) d_M_can_14 (by decide) (fun h_7 => ?_) (fun h_7 => absurd (by decide) h_7)
      refine hg_iconst (v := (-1)) d_M_can_26 (by decide) ?_
      refine hg_ireturn d_M_can_27 rfl rfl ?_
      refine ⟨?_, I, Lg, rfl, hM0, fun _ _ => rfl, fun _ _ => rfl⟩
      simp [sp_can, iha, ihb]
  · have iha : hs_ix (hs_n (gN G)) x = none := hs_ix_n hha
    refine hg_if_eq (tgt := 26) d_M_can_5 (by decide) (fun h_8 => ?_) (fun h_8 => absurd (by decide) h_8)
    refine hg_iconst (v := (-1)) d_M_can_26 (by decide) ?_
    refine hg_ireturn d_M_can_27 rfl rfl ?_
    refine ⟨?_, I, Lg, rfl, hM0, fun _ _ => rfl, fun _ _ => rfl⟩
    simp [sp_can, iha]

end M43
