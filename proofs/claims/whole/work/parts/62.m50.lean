/-! the model reads THE TEXT: town -/
theorem ps_cs_f {n : Nat} {L : Nat → Int32} {q : ps_C} (h : ¬ (q.1 = true ∧ ps_sg n L q.2.1 59 = true)) : ∀ k, ps_cs n L k q = q
  | 0 => rfl
  | k + 1 => if_neg h
theorem pc_cl_le {n : Nat} {L : Nat → Int32} {p : Nat} {g : (Nat → Int32) → Int32} {il : Int32} (hp : p ≤ n) : (ps_cl n L p g il).2.1 ≤ n := by
  have fe : ∀ t sg, (ps_fe n L t sg p g il).2.1 ≤ n := fun t sg => by
    have w1 := ps_wd_le (n := n) (L := L) (t := t) 5 0 p hp
    have n1 := ps_nm_le (L := L) w1
    unfold ps_fe; split
    · split
      · unfold ps_sp; split
        · rename_i z; have := ps_sg_t z; exact (ps_E_ok (L := L) (ps_F_ok n L 4) _ (by omega)).2.1
        · exact n1.2.1
      · exact n1.2.1
    · exact w1
  unfold ps_cl; split
  · unfold ps_ill; split
    · exact (ps_nm_le (ps_wd_le 4 0 p hp)).2.1
    · exact ps_wd_le 4 0 p hp
  · split <;> exact fe _ _
/-- what reading TOWN t changes, the codes having begun at c -/
def hm_w (t c : Nat) (I' I : Nat → Nat → Nat → Int32) : Prop := (∀ q, q ≠ 21 → q ≠ 22 → I' q = I q) ∧ (∀ j, ¬ ((16 ≤ j ∧ j ≤ 19) ∨ j = 28) → I' 21 0 j = I 21 0 j) ∧ (∀ r, ¬ (11 ≤ r ∧ r ≤ 15) → I' 22 r = I 22 r) ∧ (∀ r j, 11 ≤ r → r ≤ 14 → j < 10 * t → I' 22 r j = I 22 r j) ∧ ∀ j, j < c → I' 22 15 j = I 22 15 j
def mt_T (t w m : Nat) (W N : Nat → Nat) (D : Nat → (Nat → Int32) → Bool) (I : Nat → Nat → Nat → Int32) : Prop := ∀ i, i < m → W i ≤ 2 ∧ I 22 11 (10 * t + i) = nI (W i) ∧ N i ≤ 99 ∧ I 22 12 (10 * t + i) = nI (N i) ∧ (W i < 2 → ∃ b k : Nat, b + k ≤ w ∧ k ≤ 100 ∧ I 22 13 (10 * t + i) = nI b ∧ I 22 14 (10 * t + i) = nI k ∧ ps_me (I 22 15) b k (D i))
theorem mt_sm_cg {W N W2 N2 : Nat → Nat} {D D2 : Nat → (Nat → Int32) → Bool} {f : Nat → Int32} : ∀ m, (∀ i, i < m → W2 i = W i ∧ N2 i = N i ∧ D2 i = D i) → mt_sm W2 N2 D2 f m = mt_sm W N D f m
  | 0, _ => rfl
  | m + 1, h => by
    obtain ⟨h1, h2, h3⟩ := h m (Nat.lt_succ_self m)
    show mt_sm W2 N2 D2 f m + mt_in W2 N2 D2 f m = mt_sm W N D f m + mt_in W N D f m
    rw [mt_sm_cg m (fun i hi => h i (by omega))]; unfold mt_in; rw [h1, h2, h3]
theorem mt_il_cg {W N W2 N2 : Nat → Nat} : ∀ m, (∀ i, i < m → W2 i = W i ∧ N2 i = N i) → mt_il W2 N2 m = mt_il W N m
  | 0, _ => rfl
  | m + 1, h => by
    obtain ⟨h1, h2⟩ := h m (Nat.lt_succ_self m)
    show (if W2 m = 2 then nI (N2 m) else mt_il W2 N2 m) = (if W m = 2 then nI (N m) else mt_il W N m)
    rw [mt_il_cg m (fun i hi => h i (by omega)), h1, h2]
section M50
variable {l : Launch} {E : hg_E} {d T : Nat}
variable {I : Nat → Nat → Nat → Int32} {Lg : Nat → Nat → Nat → Int64} {Rf : Nat → Nat → Nat → Option (Nat × Nat)} {X : Nat × (Nat → Nat) × (Nat → Nat → Nat)}
variable {n : Nat} {L : Nat → Int32} {I' I1 I2 : Nat → Nat → Nat → Int32}
theorem hm_w.rf {t c : Nat} : hm_w t c I I := ⟨fun _ _ _ => rfl, fun _ _ => rfl, fun _ _ => rfl, fun _ _ _ _ _ => rfl, fun _ _ => rfl⟩
theorem hm_w.c {t c m w : Nat} (h : hm_w t c I1 I) (e : hm_c (10 * t + m) I' I1) (hw : c ≤ w) (lo : ∀ j, j < w → I' 22 15 j = I1 22 15 j) : hm_w t c I' I := ⟨fun q a b => (e.1 q a b).trans (h.1 q a b), fun j a => (e.2.1 j a).trans (h.2.1 j a), fun j a => (e.2.2.1 j a).trans (h.2.2.1 j a), fun r j a b k => (e.2.2.2 r j a b (by omega)).trans (h.2.2.2.1 r j a b k), fun j hj => (lo j (by omega)).trans (h.2.2.2.2 j hj)⟩
theorem hm_w.u {t c j : Nat} {x : Int32} (h : hm_w t c I' I) (hj : (16 ≤ j ∧ j ≤ 19) ∨ j = 28) : hm_w t c (hg_u3 I' 21 0 j x) I := ⟨fun q a b => by rw [← h.1 q a b]; funext y z; exact hg_u3k (fun v => a v.1), fun k hk => by rw [← h.2.1 k hk, hg_u3r, if_neg (fun e => hk (by rw [e]; exact hj))], fun r hr => by rw [← h.2.2.1 r hr]; funext z; exact hg_u3k (by omega), fun r k a b q => by rw [← h.2.2.2.1 r k a b q]; exact hg_u3k (by omega), fun k hk => by rw [← h.2.2.2.2 k hk]; exact hg_u3k (by omega)⟩
theorem mt_T.u {t w m j : Nat} {x : Int32} {W N : Nat → Nat} {D : Nat → (Nat → Int32) → Bool} (h : mt_T t w m W N D I) : mt_T t w m W N D (hg_u3 I 21 0 j x) := by
  have e : ∀ r, hg_u3 I 21 0 j x 22 r = I 22 r := fun r => by funext z; exact hg_u3k (by omega)
  unfold mt_T at h ⊢; rw [e 11, e 12, e 13, e 14, e 15]; exact h
theorem mt_T.step {t w w2 m : Nat} {W N : Nat → Nat} {D : Nat → (Nat → Int32) → Bool} {g : (Nat → Int32) → Int32} {il : Int32} {q : ps_C} (h : mt_T t w m W N D I) (hc : hm_c (10 * t + m) I' I) (lo : ∀ j, j < w → I' 22 15 j = I 22 15 j) (hd : pc_D (10 * t + m) w2 g il q I') (hw : w ≤ w2) (hg : ∀ f, g f = mt_sm W N D f m) (hi : il = mt_il W N m) : ∃ (W2 N2 : Nat → Nat) (D2 : Nat → (Nat → Int32) → Bool), mt_T t w2 (m + 1) W2 N2 D2 I' ∧ (∀ f, q.2.2.1 f = mt_sm W2 N2 D2 f (m + 1)) ∧ q.2.2.2 = mt_il W2 N2 (m + 1) := by
  obtain ⟨Wm, Nm, Dm, d1, d2, d3, d4, d5, d6, d7⟩ := hd
  refine ⟨fun i => if i = m then Wm else W i, fun i => if i = m then Nm else N i, fun i => if i = m then Dm else D i, fun i hi2 => ?_, fun f => ?_, ?_⟩
  · by_cases z : i = m
    · subst z; simp only [if_pos]; exact ⟨d1, d2, d3, d4, d5⟩
    · simp only [if_neg z]
      obtain ⟨e1, e2, e3, e4, e5⟩ := h i (by omega)
      refine ⟨e1, (hc.2.2.2 11 _ (by omega) (by omega) (by omega)).trans e2, e3, (hc.2.2.2 12 _ (by omega) (by omega) (by omega)).trans e4, fun y => ?_⟩
      obtain ⟨b, k, f1, f2, f3, f4, f5⟩ := e5 y
      exact ⟨b, k, by omega, f2, (hc.2.2.2 13 _ (by omega) (by omega) (by omega)).trans f3, (hc.2.2.2 14 _ (by omega) (by omega) (by omega)).trans f4, f5.cg (fun j h1 h2 => lo j (by omega))⟩
  · show _ = mt_sm _ _ _ f m + mt_in _ _ _ f m
    rw [mt_sm_cg (W := W) (N := N) (D := D) m (fun i hi2 => ⟨if_neg (by omega), if_neg (by omega), if_neg (by omega)⟩), ← hg f, d6]
    congr 1
    unfold mt_in pc_in
    simp only [if_pos]
  · show _ = if (if m = m then Wm else W m) = 2 then nI (if m = m then Nm else N m) else mt_il _ _ m
    rw [mt_il_cg (W := W) (N := N) m (fun i hi2 => ⟨if_neg (by omega), if_neg (by omega)⟩), ← hi, d7]
    simp only [if_pos]
theorem hs_Mt.w {t' t c c2 : Nat} {w : ((Nat → Int32) → Int32) × Int32} (h : hs_Mt t' c w I) (e10 : I' 22 10 t' = I 22 10 t') (e1 : ∀ r j, 11 ≤ r → r ≤ 14 → j < 10 * t → I' 22 r j = I 22 r j) (e15 : ∀ j, j < c → I' 22 15 j = I 22 15 j) (ht : t' < t) (hc : c ≤ c2) : hs_Mt t' c2 w I' := by
  obtain ⟨m, W, N, D, k1, k2, k3, k4, k5⟩ := h
  refine ⟨m, W, N, D, k1, e10.trans k2, fun i hi => ?_, k4, k5⟩
  obtain ⟨a1, a2, a3, a4, a5⟩ := k3 i hi
  refine ⟨a1, (e1 11 _ (by omega) (by omega) (by omega)).trans a2, a3, (e1 12 _ (by omega) (by omega) (by omega)).trans a4, fun y => ?_⟩
  obtain ⟨b, k, f1, f2, f3, f4, f5⟩ := a5 y
  exact ⟨b, k, by omega, f2, (e1 13 _ (by omega) (by omega) (by omega)).trans f3, (e1 14 _ (by omega) (by omega) (by omega)).trans f4, f5.cg (fun j h1 h2 => e15 j (by omega))⟩
theorem m_M_town_loop {t c : Nat} {R : ps_C} {Q : Option Value → hg_M → Prop} (hX : hg_XS T X) (hR : hg_SR T Rf) (hx0 : pm_X n L I) (ht : t < 6) (hT0 : I 21 0 20 = nI t) (hc5 : c ≤ 500) (K1 : ∀ (b2 b3 : Option Value) (I2 : Nat → Nat → Nat → Int32), ¬ (R.1 = true ∧ R.2.1 = n) → I2 21 0 16 = nI R.2.1 → hm_w t c I2 I → hg_WP l E (d + 21) Y_M_town 0 0 123 [some (.ref (hg_ad E 21 0)), some (.int (nI c)), b2, b3, some (.int 0)] [] (I2, Lg, Rf, X) (Q)) (K2 : ∀ (m2 w2 : Nat) (W N : Nat → Nat) (D : Nat → (Nat → Int32) → Bool) (b3 : Option Value) (I2 : Nat → Nat → Nat → Int32), R.1 = true → R.2.1 = n → m2 ≤ 10 → mt_T t w2 m2 W N D I2 → (∀ f, R.2.2.1 f = mt_sm W N D f m2) → R.2.2.2 = mt_il W N m2 → I2 21 0 28 = nI w2 → c ≤ w2 → w2 ≤ c + n → hm_w t c I2 I → hg_WP l E (d + 21) Y_M_town 0 0 123 [some (.ref (hg_ad E 21 0)), some (.int (nI c)), some (.int (nI m2)), b3, some (.int 1)] [] (I2, Lg, Rf, X) (Q)) : ∀ (k m p w : Nat) (g : (Nat → Int32) → Int32) (il : Int32) (W N : Nat → Nat) (D : Nat → (Nat → Int32) → Bool) (I1 : Nat → Nat → Nat → Int32), m + k = 9 → I1 21 0 16 = nI p → p ≤ n → I1 21 0 28 = nI w → c ≤ w → w ≤ c + p → hm_w t c I1 I → mt_T t w m W N D I1 → (∀ f, g f = mt_sm W N D f m) → il = mt_il W N m → ps_cs n L k (ps_cl n L p g il) = R → hg_WP l E (d + 21) Y_M_town 0 0 29 [some (.ref (hg_ad E 21 0)), some (.int (nI c)), some (.int (nI m)), some (.int 1), some (.int 0)] [] (I1, Lg, Rf, X) (Q) := by
  have hn100 := hx0.2.2.1
  intro k
  induction k with
  | zero =>
    intro m p w g il W N D I1 hmk hat hpn hcd hcw hwp hfr htab hg hil hRR
    have hx : pm_X n L I1 := by have := hx0; unfold pm_X at this ⊢; rw [hfr.2.1 14 (by omega), hfr.2.2.1 9 (by omega)]; exact this
    refine hg_iload3 d_M_town_29 ?_
    refine hg_if_eq (tgt := 123) d_M_town_30 (by decide) (fun h_1 => absurd h_1 (by decide)) (fun h_1 => ?_)
    refine hg_iload4 d_M_town_33 ?_
    refine hg_if_ne (tgt := 123) d_M_town_35 (by decide) (fun h_2 => absurd h_2 (by decide)) (fun h_2 => ?_)
    refine hg_iload2 d_M_town_38 ?_
    refine hg_bipush (v := 10) d_M_town_39 (by decide) ?_
    refine hg_icmp_ge (tgt := 64) d_M_town_41 (by decide) (fun h_3 => absurd h_3 (nI_ge (a := m) (b := 10) (by omega) (by decide))) (fun h_3 => ?_)
    refine hg_aload0 d_M_town_44 ?_
    refine hg_bipush (v := 10) d_M_town_45 (by decide) ?_
    refine hg_aload0 d_M_town_47 ?_
    refine hg_getI d_M_town_48 f_M_208 rfl rfl (hX.lt (n := 1) ⟨by decide, by decide⟩ rfl (by omega)) ?_
    refine hg_eq1 (y := nI t) ((hfr.2.1 20 (by omega)).trans hT0) ?_
    refine hg_imul d_M_town_51 ?_
    refine hg_eq1 (y := nI (10 * t)) (pk_mul _ _) ?_
    refine hg_iload2 d_M_town_52 ?_
    refine hg_iadd d_M_town_53 ?_
    refine hg_eq1 (y := nI ((10 * t) + m)) (nI_add _ _) ?_
    refine hg_cVi d_M_town_54 l_M_211 rfl rfl (hX.lt (n := 1) ⟨by decide, by decide⟩ rfl (by omega)) rfl (Nat.le_of_ble_eq_true rfl) (m_M_isClause (n := n) (L := L) (p := p) (w := w) (i := 10 * t + m) (g := g) (il := il) hX hR hx hat hpn hcd (by omega) (by omega)) rfl ?_
    rintro _ _ ⟨I2, rfl, rfl, bat, bhc, blo, bk, bpk, bcd, bd⟩
    have hfr2 := hfr.c bhc hcw blo
    have hx2 : pm_X n L I2 := hx.c bhc
    have hql : (ps_cl n L p g il).2.1 ≤ n := pc_cl_le hpn
    by_cases hu : (ps_cl n L p g il).1 = true
    · refine hg_eq1 (y := 1) (if_pos hu) ?_
      obtain ⟨W2, N2, D2, t1, t2, t3⟩ := htab.step bhc blo (bd hu) (Nat.le_add_right _ _) hg hil
      refine hg_if_eq (tgt := 64) d_M_town_57 (by decide) (fun h_4 => absurd h_4 (by decide)) (fun h_4 => ?_)
      refine hg_iconst (v := 1) d_M_town_60 (by decide) ?_
      refine hg_goto (tgt := 65) d_M_town_61 (by decide) ?_
      refine hg_istore3 d_M_town_65 rfl ?_
      refine hg_iload3 d_M_town_66 ?_
      refine hg_if_ne (tgt := 73) d_M_town_67 (by decide) (fun h_5 => ?_) (fun h_5 => absurd (by decide) h_5)
      refine hg_iinc2 (v := nI (m + 1)) d_M_town_73 rfl (nI_add _ _) ?_
      refine hg_aload0 d_M_town_76 ?_
      refine hg_getI d_M_town_77 f_M_139 rfl rfl (hX.lt (n := 1) ⟨by decide, by decide⟩ rfl (by omega)) ?_
      refine hg_eq1 (y := nI (ps_cl n L p g il).2.1) (bat) ?_
      refine hg_aload0 d_M_town_80 ?_
      refine hg_getI d_M_town_81 f_M_136 rfl rfl (hX.lt (n := 1) ⟨by decide, by decide⟩ rfl (by omega)) ?_
      refine hg_eq1 (y := nI n) (hx2.1) ?_
      refine hg_icmp_ne (tgt := 91) d_M_town_84 (by decide) (fun hdn => ?_) (fun hdn => ?_)
      · have hdn2 : ¬ (ps_cl n L p g il).2.1 = n := fun z => hdn (by rw [z])
        refine hg_iconst (v := 0) d_M_town_91 (by decide) ?_
        refine hg_istore4 d_M_town_92 rfl ?_
        refine hg_iload4 d_M_town_94 ?_
        refine hg_if_ne (tgt := 114) d_M_town_96 (by decide) (fun h_6 => absurd h_6 (by decide)) (fun h_6 => ?_)
        refine hg_iload2 d_M_town_99 ?_
        refine hg_bipush (v := 10) d_M_town_100 (by decide) ?_
        refine hg_icmp_ge (tgt := 118) d_M_town_102 (by decide) (fun h_7 => ?_) (fun h_7 => absurd (nI_le (a := 10) (b := m + 1) (by omega) (by omega)) h_7)
        refine hg_iconst (v := 0) d_M_town_118 (by decide) ?_
        refine hg_istore3 d_M_town_119 rfl ?_
        refine hg_goto (tgt := 29) d_M_town_120 (by decide) ?_
        refine hg_iload3 d_M_town_29 ?_
        refine hg_if_eq (tgt := 123) d_M_town_30 (by decide) (fun h_8 => ?_) (fun h_8 => absurd (by decide) h_8)
        have hRq : R = (ps_cl n L p g il) := hRR.symm.trans (rfl)
        exact K1 _ _ I2 (by rw [hRq]; exact fun z => hdn2 z.2) (by rw [hRq]; exact bat) hfr2
      · replace hdn := Decidable.not_not.mp hdn
        have hdn2 : (ps_cl n L p g il).2.1 = n := (nI_eq (by omega) (by omega)).mp hdn
        refine hg_iconst (v := 1) d_M_town_87 (by decide) ?_
        refine hg_goto (tgt := 92) d_M_town_88 (by decide) ?_
        refine hg_istore4 d_M_town_92 rfl ?_
        refine hg_iload4 d_M_town_94 ?_
        refine hg_if_ne (tgt := 114) d_M_town_96 (by decide) (fun h_9 => ?_) (fun h_9 => absurd (by decide) h_9)
        refine hg_iconst (v := 1) d_M_town_114 (by decide) ?_
        refine hg_goto (tgt := 119) d_M_town_115 (by decide) ?_
        refine hg_istore3 d_M_town_119 rfl ?_
        refine hg_goto (tgt := 29) d_M_town_120 (by decide) ?_
        refine hg_iload3 d_M_town_29 ?_
        refine hg_if_eq (tgt := 123) d_M_town_30 (by decide) (fun h_10 => absurd h_10 (by decide)) (fun h_10 => ?_)
        refine hg_iload4 d_M_town_33 ?_
        refine hg_if_ne (tgt := 123) d_M_town_35 (by decide) (fun h_11 => ?_) (fun h_11 => absurd (by decide) h_11)
        have hRq : R = (ps_cl n L p g il) := hRR.symm.trans (ps_cs_f (fun z => by have := (ps_sg_t z.2).1; omega) _)
        exact K2 (m + 1) (w + bk) W2 N2 D2 _ I2 (by rw [hRq]; exact hu) (by rw [hRq]; exact hdn2) (by omega) t1 (by rw [hRq]; exact t2) (by rw [hRq]; exact t3) bcd (by omega) (by omega) hfr2
    · refine hg_eq1 (y := 0) (if_neg hu) ?_
      refine hg_if_eq (tgt := 64) d_M_town_57 (by decide) (fun h_12 => ?_) (fun h_12 => absurd (by decide) h_12)
      refine hg_iconst (v := 0) d_M_town_64 (by decide) ?_
      refine hg_istore3 d_M_town_65 rfl ?_
      refine hg_iload3 d_M_town_66 ?_
      refine hg_if_ne (tgt := 73) d_M_town_67 (by decide) (fun h_13 => absurd h_13 (by decide)) (fun h_13 => ?_)
      refine hg_goto (tgt := 29) d_M_town_70 (by decide) ?_
      refine hg_iload3 d_M_town_29 ?_
      refine hg_if_eq (tgt := 123) d_M_town_30 (by decide) (fun h_14 => ?_) (fun h_14 => absurd (by decide) h_14)
      have hRq : R = (ps_cl n L p g il) := hRR.symm.trans (ps_cs_f (fun z => hu z.1) _)
      exact K1 _ _ I2 (by rw [hRq]; exact fun z => hu z.1) (by rw [hRq]; exact bat) hfr2
  | succ k ih =>
    intro m p w g il W N D I1 hmk hat hpn hcd hcw hwp hfr htab hg hil hRR
    have hx : pm_X n L I1 := by have := hx0; unfold pm_X at this ⊢; rw [hfr.2.1 14 (by omega), hfr.2.2.1 9 (by omega)]; exact this
    refine hg_iload3 d_M_town_29 ?_
    refine hg_if_eq (tgt := 123) d_M_town_30 (by decide) (fun h_15 => absurd h_15 (by decide)) (fun h_15 => ?_)
    refine hg_iload4 d_M_town_33 ?_
    refine hg_if_ne (tgt := 123) d_M_town_35 (by decide) (fun h_16 => absurd h_16 (by decide)) (fun h_16 => ?_)
    refine hg_iload2 d_M_town_38 ?_
    refine hg_bipush (v := 10) d_M_town_39 (by decide) ?_
    refine hg_icmp_ge (tgt := 64) d_M_town_41 (by decide) (fun h_17 => absurd h_17 (nI_ge (a := m) (b := 10) (by omega) (by decide))) (fun h_17 => ?_)
    refine hg_aload0 d_M_town_44 ?_
    refine hg_bipush (v := 10) d_M_town_45 (by decide) ?_
    refine hg_aload0 d_M_town_47 ?_
    refine hg_getI d_M_town_48 f_M_208 rfl rfl (hX.lt (n := 1) ⟨by decide, by decide⟩ rfl (by omega)) ?_
    refine hg_eq1 (y := nI t) ((hfr.2.1 20 (by omega)).trans hT0) ?_
    refine hg_imul d_M_town_51 ?_
    refine hg_eq1 (y := nI (10 * t)) (pk_mul _ _) ?_
    refine hg_iload2 d_M_town_52 ?_
    refine hg_iadd d_M_town_53 ?_
    refine hg_eq1 (y := nI ((10 * t) + m)) (nI_add _ _) ?_
    refine hg_cVi d_M_town_54 l_M_211 rfl rfl (hX.lt (n := 1) ⟨by decide, by decide⟩ rfl (by omega)) rfl (Nat.le_of_ble_eq_true rfl) (m_M_isClause (n := n) (L := L) (p := p) (w := w) (i := 10 * t + m) (g := g) (il := il) hX hR hx hat hpn hcd (by omega) (by omega)) rfl ?_
    rintro _ _ ⟨I2, rfl, rfl, bat, bhc, blo, bk, bpk, bcd, bd⟩
    have hfr2 := hfr.c bhc hcw blo
    have hx2 : pm_X n L I2 := hx.c bhc
    have hql : (ps_cl n L p g il).2.1 ≤ n := pc_cl_le hpn
    by_cases hu : (ps_cl n L p g il).1 = true
    · refine hg_eq1 (y := 1) (if_pos hu) ?_
      obtain ⟨W2, N2, D2, t1, t2, t3⟩ := htab.step bhc blo (bd hu) (Nat.le_add_right _ _) hg hil
      refine hg_if_eq (tgt := 64) d_M_town_57 (by decide) (fun h_18 => absurd h_18 (by decide)) (fun h_18 => ?_)
      refine hg_iconst (v := 1) d_M_town_60 (by decide) ?_
      refine hg_goto (tgt := 65) d_M_town_61 (by decide) ?_
      refine hg_istore3 d_M_town_65 rfl ?_
      refine hg_iload3 d_M_town_66 ?_
      refine hg_if_ne (tgt := 73) d_M_town_67 (by decide) (fun h_19 => ?_) (fun h_19 => absurd (by decide) h_19)
      refine hg_iinc2 (v := nI (m + 1)) d_M_town_73 rfl (nI_add _ _) ?_
      refine hg_aload0 d_M_town_76 ?_
      refine hg_getI d_M_town_77 f_M_139 rfl rfl (hX.lt (n := 1) ⟨by decide, by decide⟩ rfl (by omega)) ?_
      refine hg_eq1 (y := nI (ps_cl n L p g il).2.1) (bat) ?_
      refine hg_aload0 d_M_town_80 ?_
      refine hg_getI d_M_town_81 f_M_136 rfl rfl (hX.lt (n := 1) ⟨by decide, by decide⟩ rfl (by omega)) ?_
      refine hg_eq1 (y := nI n) (hx2.1) ?_
      refine hg_icmp_ne (tgt := 91) d_M_town_84 (by decide) (fun hdn => ?_) (fun hdn => ?_)
      · have hdn2 : ¬ (ps_cl n L p g il).2.1 = n := fun z => hdn (by rw [z])
        refine hg_iconst (v := 0) d_M_town_91 (by decide) ?_
        refine hg_istore4 d_M_town_92 rfl ?_
        refine hg_iload4 d_M_town_94 ?_
        refine hg_if_ne (tgt := 114) d_M_town_96 (by decide) (fun h_20 => absurd h_20 (by decide)) (fun h_20 => ?_)
        refine hg_iload2 d_M_town_99 ?_
        refine hg_bipush (v := 10) d_M_town_100 (by decide) ?_
        refine hg_icmp_ge (tgt := 118) d_M_town_102 (by decide) (fun h_21 => absurd h_21 (nI_ge (a := m + 1) (b := 10) (by omega) (by decide))) (fun h_21 => ?_)
        refine hg_aload0 d_M_town_105 ?_
        refine hg_bipush (v := 59) d_M_town_106 (by decide) ?_
        refine hg_cVi d_M_town_108 l_M_161 rfl rfl (hX.lt (n := 1) ⟨by decide, by decide⟩ rfl (by omega)) rfl (Nat.le_of_ble_eq_true rfl) (m_M_is (n := n) (L := L) (p := (ps_cl n L p g il).2.1) (c := 59) hX hR hx2 bat hql) rfl ?_
        rintro _ _ (⟨hsg, rfl, rfl⟩ | ⟨hsg, rfl, rfl⟩)
        · have hlt := (ps_sg_t hsg).1
          refine hg_if_eq (tgt := 118) d_M_town_111 (by decide) (fun h_22 => absurd h_22 (by decide)) (fun h_22 => ?_)
          refine hg_iconst (v := 1) d_M_town_114 (by decide) ?_
          refine hg_goto (tgt := 119) d_M_town_115 (by decide) ?_
          refine hg_istore3 d_M_town_119 rfl ?_
          refine hg_goto (tgt := 29) d_M_town_120 (by decide) ?_
          refine ih (m + 1) ((ps_cl n L p g il).2.1 + 1) (w + bk) (ps_cl n L p g il).2.2.1 (ps_cl n L p g il).2.2.2 W2 N2 D2 _ (by omega) (by rw [hg_u3s]) (by omega) (by rw [hg_u3r, if_neg (by decide)]; exact bcd) (by omega) (by omega) (hfr2.u (Or.inl (by omega))) t1.u t2 t3 ?_
          rw [← hRR]; exact (if_pos ⟨hu, hsg⟩).symm
        · refine hg_if_eq (tgt := 118) d_M_town_111 (by decide) (fun h_23 => ?_) (fun h_23 => absurd (by decide) h_23)
          refine hg_iconst (v := 0) d_M_town_118 (by decide) ?_
          refine hg_istore3 d_M_town_119 rfl ?_
          refine hg_goto (tgt := 29) d_M_town_120 (by decide) ?_
          refine hg_iload3 d_M_town_29 ?_
          refine hg_if_eq (tgt := 123) d_M_town_30 (by decide) (fun h_24 => ?_) (fun h_24 => absurd (by decide) h_24)
          have hRq : R = (ps_cl n L p g il) := hRR.symm.trans (ps_cs_f (fun z => by rw [hsg] at z; exact absurd z.2 (by decide)) _)
          exact K1 _ _ I2 (by rw [hRq]; exact fun z => hdn2 z.2) (by rw [hRq]; exact bat) hfr2
      · replace hdn := Decidable.not_not.mp hdn
        have hdn2 : (ps_cl n L p g il).2.1 = n := (nI_eq (by omega) (by omega)).mp hdn
        refine hg_iconst (v := 1) d_M_town_87 (by decide) ?_
        refine hg_goto (tgt := 92) d_M_town_88 (by decide) ?_
        refine hg_istore4 d_M_town_92 rfl ?_
        refine hg_iload4 d_M_town_94 ?_
        refine hg_if_ne (tgt := 114) d_M_town_96 (by decide) (fun h_25 => ?_) (fun h_25 => absurd (by decide) h_25)
        refine hg_iconst (v := 1) d_M_town_114 (by decide) ?_
        refine hg_goto (tgt := 119) d_M_town_115 (by decide) ?_
        refine hg_istore3 d_M_town_119 rfl ?_
        refine hg_goto (tgt := 29) d_M_town_120 (by decide) ?_
        refine hg_iload3 d_M_town_29 ?_
        refine hg_if_eq (tgt := 123) d_M_town_30 (by decide) (fun h_26 => absurd h_26 (by decide)) (fun h_26 => ?_)
        refine hg_iload4 d_M_town_33 ?_
        refine hg_if_ne (tgt := 123) d_M_town_35 (by decide) (fun h_27 => ?_) (fun h_27 => absurd (by decide) h_27)
        have hRq : R = (ps_cl n L p g il) := hRR.symm.trans (ps_cs_f (fun z => by have := (ps_sg_t z.2).1; omega) _)
        exact K2 (m + 1) (w + bk) W2 N2 D2 _ I2 (by rw [hRq]; exact hu) (by rw [hRq]; exact hdn2) (by omega) t1 (by rw [hRq]; exact t2) (by rw [hRq]; exact t3) bcd (by omega) (by omega) hfr2
    · refine hg_eq1 (y := 0) (if_neg hu) ?_
      refine hg_if_eq (tgt := 64) d_M_town_57 (by decide) (fun h_28 => ?_) (fun h_28 => absurd (by decide) h_28)
      refine hg_iconst (v := 0) d_M_town_64 (by decide) ?_
      refine hg_istore3 d_M_town_65 rfl ?_
      refine hg_iload3 d_M_town_66 ?_
      refine hg_if_ne (tgt := 73) d_M_town_67 (by decide) (fun h_29 => absurd h_29 (by decide)) (fun h_29 => ?_)
      refine hg_goto (tgt := 29) d_M_town_70 (by decide) ?_
      refine hg_iload3 d_M_town_29 ?_
      refine hg_if_eq (tgt := 123) d_M_town_30 (by decide) (fun h_30 => ?_) (fun h_30 => absurd (by decide) h_30)
      have hRq : R = (ps_cl n L p g il) := hRR.symm.trans (ps_cs_f (fun z => hu z.1) _)
      exact K1 _ _ I2 (by rw [hRq]; exact fun z => hu z.1) (by rw [hRq]; exact bat) hfr2
end M50
section M50b
variable {l : Launch} {E : hg_E} {d T : Nat}
variable {I : Nat → Nat → Nat → Int32} {Lg : Nat → Nat → Nat → Int64} {Rf : Nat → Nat → Nat → Option (Nat × Nat)} {X : Nat × (Nat → Nat) × (Nat → Nat → Nat)}
variable {I' I1 I2 : Nat → Nat → Nat → Int32} {G : hs_G}
theorem hs_MR.tf (h : hs_MR G I Lg) {c : Nat} (hc : I 21 0 28 = nI c) (hc5 : c ≤ 100 * gT G) (e : hm_w (gT G) c I2 I) (hc0 : ∀ t, t < gT G → hs_Mt t c (gW G (t + 1)) I) : hs_MR (gsX G (0, (gX G).2)) (hg_u3 (hg_u3 I2 21 0 14 0) 21 0 28 (nI c)) Lg := by
  obtain ⟨g, h1, h2, h3, h4, h5, h6, h7⟩ := h
  have e2 : ∀ j, ¬ ((16 ≤ j ∧ j ≤ 19) ∨ j = 14) → hg_u3 (hg_u3 I2 21 0 14 0) 21 0 28 (nI c) 21 0 j = I 21 0 j := fun j hj => by
    rw [hg_u3r]
    by_cases z : j = 28
    · rw [if_pos z, z]; exact hc.symm
    · rw [if_neg z, hg_u3r, if_neg (by omega)]; exact e.2.1 j (by omega)
  have e1 : ∀ r, hg_u3 (hg_u3 I2 21 0 14 0) 21 0 28 (nI c) 22 r = I2 22 r := fun r => by funext z; rw [hg_u3k (by omega), hg_u3k (by omega)]
  have e3 : ∀ r, ¬ (11 ≤ r ∧ r ≤ 15) → hg_u3 (hg_u3 I2 21 0 14 0) 21 0 28 (nI c) 22 r = I 22 r := fun r hr => (e1 r).trans (e.2.2.1 r hr)
  obtain ⟨q1, q2, q3, -⟩ := h7
  refine ⟨g.kp (fun j _ => e2 j (by omega)) (fun r _ => e3 r (by omega)), by rw [e2 41 (by omega)]; exact h1, by rw [e3 23 (by omega)]; exact h2, ⟨by rw [hg_u3r, if_neg (by decide), hg_u3s]; rfl, fun j hj => absurd hj (Nat.not_lt_zero j)⟩, by rw [e2 20 (by omega)]; exact h4, by rw [e2 39 (by omega), e3 22 (by omega)]; exact h5, fun t ht => (h6 t ht).kp (e3 26 (by omega)) (e3 27 (by omega)) rfl, q1, q2, q3, c, by rw [hg_u3s], hc5, fun t ht => (hc0 t ht).w (by rw [e3 10 (by omega)]) (fun r j a b k => by rw [e1]; exact e.2.2.2.1 r j a b k) (fun j hj => by rw [e1]; exact e.2.2.2.2 j hj) ht (Nat.le_refl _)⟩
theorem hs_MR.ts (h : hs_MR G I Lg) {c w2 m2 : Nat} {W N : Nat → Nat} {D : Nat → (Nat → Int32) → Bool} {fear : (Nat → Int32) → Int32} {ill : Int32} (e : hm_w (gT G) c I2 I) (hc0 : ∀ t, t < gT G → hs_Mt t c (gW G (t + 1)) I) (hT5 : gT G ≤ 5) (hw2 : I2 21 0 28 = nI w2) (hcw : c ≤ w2) (hw3 : w2 ≤ 100 * (gT G + 1)) (hm2 : m2 ≤ 10) (tb : mt_T (gT G) w2 m2 W N D I2) (hf : ∀ f, fear f = mt_sm W N D f m2) (hil : ill = mt_il W N m2) :
    hs_MR (gsT G ((gN G).1, hs_st (gN G), hs_hv (gN G), hs_rw (gN G), gT G + 1) (0, (gX G).2) (fun t => if t = gT G + 1 then ((fun f => fear (hs_N f)), ill) else gW G t)) (hg_u3 (hg_u3 (hg_u3 (hg_u3 I2 21 0 14 0) 22 10 (gT G) (nI m2)) 21 0 21 (nI (gT G))) 21 0 20 (nI (gT G + 1))) Lg := by
  obtain ⟨g, h1, h2, h3, h4, h5, h6, h7⟩ := h
  obtain ⟨J, hJ⟩ : ∃ J, J = hg_u3 (hg_u3 (hg_u3 (hg_u3 I2 21 0 14 0) 22 10 (gT G) (nI m2)) 21 0 21 (nI (gT G))) 21 0 20 (nI (gT G + 1)) := ⟨_, rfl⟩
  have j20 : J 21 0 20 = nI (gT G + 1) := by rw [hJ, hg_u3s]
  have j21 : J 21 0 21 = nI (gT G) := by rw [hJ, hg_u3r, if_neg (by decide), hg_u3s]
  have j14 : J 21 0 14 = 0 := by rw [hJ, hg_u3r, if_neg (by decide), hg_u3r, if_neg (by decide), hg_u3k (by omega), hg_u3s]
  have j28 : J 21 0 28 = nI w2 := by rw [hJ, hg_u3r, if_neg (by decide), hg_u3r, if_neg (by decide), hg_u3k (by omega), hg_u3r, if_neg (by decide)]; exact hw2
  have e2 : ∀ j, ¬ ((16 ≤ j ∧ j ≤ 21) ∨ j = 14 ∨ j = 28) → J 21 0 j = I 21 0 j := fun j hj => by
    rw [hJ, hg_u3r, if_neg (by omega), hg_u3r, if_neg (by omega), hg_u3k (by omega), hg_u3r, if_neg (by omega)]; exact e.2.1 j (by omega)
  have e1 : ∀ r, r ≠ 10 → J 22 r = I2 22 r := fun r hr => by funext z; rw [hJ, hg_u3k (by omega), hg_u3k (by omega), hg_u3k (by omega), hg_u3k (by omega)]
  have e3 : ∀ r, ¬ (10 ≤ r ∧ r ≤ 15) → J 22 r = I 22 r := fun r hr => (e1 r (by omega)).trans (e.2.2.1 r (by omega))
  have e10 : ∀ t, J 22 10 t = if t = gT G then nI m2 else I 22 10 t := fun t => by rw [hJ, hg_u3k (by omega), hg_u3k (by omega), hg_u3r, hg_u3k (by omega), e.2.2.1 10 (by omega)]
  obtain ⟨q1, q2, q3, -⟩ := h7
  obtain ⟨⟨m1, m2', m3, m4, m5, m6, m7, m8, m9⟩, l0, l2, l4⟩ := g
  rw [← hJ]
  refine ⟨⟨⟨(e2 0 (by omega)).trans m1, (e2 10 (by omega)).trans m2', (e2 11 (by omega)).trans m3, (e2 12 (by omega)).trans m4, (e2 13 (by omega)).trans m5, j21.trans (nI_pred _).symm, by rw [e3 8 (by omega)]; exact m7, fun p f hp hf => by rw [e3 f (by omega)]; exact m8 p f hp hf, by rw [e3 7 (by omega)]; exact m9⟩, l0.kp (e2 _ (by omega)) (e3 _ (by omega)) (e3 _ (by omega)), l2.kp (e2 _ (by omega)) (e3 _ (by omega)) (e3 _ (by omega)), l4.kp (e2 _ (by omega)) (e3 _ (by omega)) (e3 _ (by omega))⟩,
    by rw [e2 41 (by omega)]; exact h1, by rw [e3 23 (by omega)]; exact h2, ⟨j14, fun j hj => absurd hj (Nat.not_lt_zero j)⟩, j20, by rw [e2 39 (by omega), e3 22 (by omega)]; exact h5, fun t ht => (h6 t ht).kp (e3 26 (by omega)) (e3 27 (by omega)) rfl, ?_⟩
  show hs_MT (gT G + 1) (fun t => if t = gT G + 1 then ((fun f => fear (hs_N f)), ill) else gW G t) J
  refine ⟨by omega, fun f => by simp only [if_neg (show ¬ 0 = gT G + 1 by omega)]; exact q2 f, by simp only [if_neg (show ¬ 0 = gT G + 1 by omega)]; exact q3, w2, j28, hw3, fun t ht => ?_⟩
  by_cases z : t = gT G
  · subst z
    simp only [if_pos]
    refine ⟨m2, W, N, D, hm2, by rw [e10, if_pos rfl], fun i hi => ?_, fun f => hf (hs_N f), hil⟩
    rw [e1 11 (by decide), e1 12 (by decide), e1 13 (by decide), e1 14 (by decide), e1 15 (by decide)]
    exact tb i hi
  · simp only [if_neg (show ¬ t + 1 = gT G + 1 by omega)]
    exact (hc0 t (by omega)).w (by rw [e10, if_neg z]) (fun r j a b k => by rw [e1 r (by omega)]; exact e.2.2.2.1 r j a b k) (fun j hj => by rw [e1 15 (by decide)]; exact e.2.2.2.2 j hj) (show t < gT G by omega) hcw
theorem m_M_town (hX : hg_XS T X) (hR : hg_SR T Rf) (hM0 : hs_MR G I Lg) (hG : hs_gok G) : hg_MC l E (d + 22) Y_M_town 0 0 [.ref (hg_ad E 21 0)] (I, Lg, Rf, X) (hg_i (fun v M' => hs_MP v (so_town G).1 (so_town G).2 I Lg Rf X M')) := by
  have hMT := hM0.2.2.2.2.2.2.2
  have hT6 := hMT.1
  refine hg_mc k_M_town (Nat.le_of_ble_eq_true rfl) ?_
  show hg_WP l E _ Y_M_town 0 0 0 [some (.ref (hg_ad E 21 0)), none, none, none, none] [] (I, Lg, Rf, X) _
  refine hg_aload0 d_M_town_0 ?_
  refine hg_getI d_M_town_1 f_M_208 rfl rfl (hX.lt (n := 1) ⟨by decide, by decide⟩ rfl (by omega)) ?_
  refine hg_eq1 (y := nI (gT G)) (hM0.2.2.2.2.1) ?_
  refine hg_bipush (v := 6) d_M_town_4 (by decide) ?_
  refine hg_icmp_ne (tgt := 12) d_M_town_6 (by decide) (fun h6 => ?_) (fun h6 => ?_)
  · have hT5 : gT G ≤ 5 := by have : ¬ gT G = 6 := fun z => h6 (by rw [z]; rfl); omega
    obtain ⟨-, -, -, c, hcc, hc5, hc0⟩ := id hMT
    refine hg_aload0 d_M_town_12 ?_
    refine hg_getI d_M_town_13 f_M_164 rfl rfl (hX.lt (n := 1) ⟨by decide, by decide⟩ rfl (by omega)) ?_
    refine hg_eq1 (y := nI c) (hcc) ?_
    refine hg_istore1 d_M_town_16 rfl ?_
    refine hg_aload0 d_M_town_17 ?_
    refine hg_iconst (v := 0) d_M_town_18 (by decide) ?_
    refine hg_putI d_M_town_19 f_M_139 rfl rfl (Or.inl rfl) rfl rfl (hX.lt (n := 1) ⟨by decide, by decide⟩ rfl (by omega)) ?_
    refine hg_iconst (v := 0) d_M_town_22 (by decide) ?_
    refine hg_istore2 d_M_town_23 rfl ?_
    refine hg_iconst (v := 1) d_M_town_24 (by decide) ?_
    refine hg_istore3 d_M_town_25 rfl ?_
    refine hg_iconst (v := 0) d_M_town_26 (by decide) ?_
    refine hg_istore4 d_M_town_27 rfl ?_
    have hx : pm_X (gX G).1 (gX G).2 I := ⟨hM0.2.2.2.1.1, hM0.2.2.2.1.2, hG.2.2.2.2.2.2.1, hG.2.2.2.2.2.2.2.1⟩
    refine m_M_town_loop (d := d) (R := ps_tw (gX G).1 (gX G).2) hX hR hx (by omega) hM0.2.2.2.2.1 (show c ≤ 500 by omega) ?_ ?_ 9 0 0 c (fun _ => 0) 60 (fun _ => 0) (fun _ => 0) (fun _ _ => false) _ rfl (by rw [hg_u3s]; rfl) (Nat.zero_le _) (by rw [hg_u3r, if_neg (by decide)]; exact hcc) (Nat.le_refl _) (by omega) (hm_w.rf.u (Or.inl (by omega))) (fun i hi => absurd hi (Nat.not_lt_zero _)) (fun f => rfl) rfl rfl
    · intro b2 b3 I2 hno hat hw_
      refine hg_aload0 d_M_town_123 ?_
      refine hg_iconst (v := 0) d_M_town_124 (by decide) ?_
      refine hg_putI d_M_town_125 f_M_136 rfl rfl (Or.inl rfl) rfl rfl (hX.lt (n := 1) ⟨by decide, by decide⟩ rfl (by omega)) ?_
      refine hg_iload4 d_M_town_128 ?_
      refine hg_if_ne (tgt := 146) d_M_town_130 (by decide) (fun h_1 => absurd h_1 (by decide)) (fun h_1 => ?_)
      refine hg_aload0 d_M_town_133 ?_
      refine hg_iload1 d_M_town_134 ?_
      refine hg_putI d_M_town_135 f_M_164 rfl rfl (Or.inl rfl) rfl rfl (hX.lt (n := 1) ⟨by decide, by decide⟩ rfl (by omega)) ?_
      refine hg_bipush (v := (-10)) d_M_town_138 (by decide) ?_
      refine hg_aload0 d_M_town_140 ?_
      refine hg_getI d_M_town_141 f_M_139 rfl rfl (hX.lt (n := 1) ⟨by decide, by decide⟩ rfl (by omega)) ?_
      refine hg_eq1 (y := I2 21 0 16) (by simp [hg_u3]) ?_
      refine hg_eq1 (y := nI (ps_tw (gX G).1 (gX G).2).2.1) (hat) ?_
      refine hg_isub d_M_town_144 ?_
      refine hg_ireturn d_M_town_145 rfl rfl ?_
      have hz : so_town G = (-10 - nI (ps_tw (gX G).1 (gX G).2).2.1, gsX G (0, (gX G).2)) := (if_neg (by omega)).trans (if_neg hno)
      rw [hz]
      exact ⟨rfl, _, Lg, rfl, hM0.tf hcc hc5 hw_ hc0, fun k hk => by funext a b; (repeat rw [hg_u3k (by omega)]); rw [hw_.1 k (by omega) (by omega)], fun _ _ => rfl⟩
    · intro m2 w2 W N D b3 I2 hok hend hm2 htb hfe hil hcd hcw hwn hw_
      refine hg_aload0 d_M_town_123 ?_
      refine hg_iconst (v := 0) d_M_town_124 (by decide) ?_
      refine hg_putI d_M_town_125 f_M_136 rfl rfl (Or.inl rfl) rfl rfl (hX.lt (n := 1) ⟨by decide, by decide⟩ rfl (by omega)) ?_
      refine hg_iload4 d_M_town_128 ?_
      refine hg_if_ne (tgt := 146) d_M_town_130 (by decide) (fun h_2 => ?_) (fun h_2 => absurd (by decide) h_2)
      refine hg_aload0 d_M_town_146 ?_
      refine hg_getR d_M_town_147 f_M_42 rfl rfl (hX.lt (n := 1) ⟨by decide, by decide⟩ rfl (by omega)) (hR.m (j := 22) (q := (22, 10)) rfl) ?_
      refine hg_aload0 d_M_town_150 ?_
      refine hg_getI d_M_town_151 f_M_208 rfl rfl (hX.lt (n := 1) ⟨by decide, by decide⟩ rfl (by omega)) ?_
      refine hg_eq1 (y := I2 21 0 20) (by simp [hg_u3]) ?_
      refine hg_eq1 (y := nI (gT G)) ((hw_.2.1 20 (by omega)).trans hM0.2.2.2.2.1) ?_
      refine hg_iload2 d_M_town_154 ?_
      refine hg_iast_n (j := (gT G)) d_M_town_155 rfl rfl (hX.lt (n := 28) ⟨by decide, by decide⟩ rfl (by omega)) (hX.jn (n := 6) (by decide) rfl (by omega)) ?_
      refine hg_aload0 d_M_town_156 ?_
      refine hg_aload0 d_M_town_157 ?_
      refine hg_getI d_M_town_158 f_M_208 rfl rfl (hX.lt (n := 1) ⟨by decide, by decide⟩ rfl (by omega)) ?_
      refine hg_eq1 (y := I2 21 0 20) (by simp [hg_u3]) ?_
      refine hg_eq1 (y := nI (gT G)) ((hw_.2.1 20 (by omega)).trans hM0.2.2.2.2.1) ?_
      refine hg_putI d_M_town_161 f_M_104 rfl rfl (Or.inl rfl) rfl rfl (hX.lt (n := 1) ⟨by decide, by decide⟩ rfl (by omega)) ?_
      refine hg_aload0 d_M_town_164 ?_
      refine hg_dup d_M_town_165 rfl ?_
      refine hg_getI d_M_town_166 f_M_208 rfl rfl (hX.lt (n := 1) ⟨by decide, by decide⟩ rfl (by omega)) ?_
      refine hg_eq1 (y := I2 21 0 20) (by simp [hg_u3]) ?_
      refine hg_eq1 (y := nI (gT G)) ((hw_.2.1 20 (by omega)).trans hM0.2.2.2.2.1) ?_
      refine hg_dup_x1 d_M_town_169 rfl rfl ?_
      refine hg_iconst (v := 1) d_M_town_170 (by decide) ?_
      refine hg_iadd d_M_town_171 ?_
      refine hg_eq1 (y := nI ((gT G) + 1)) (nI_add _ _) ?_
      refine hg_putI d_M_town_172 f_M_208 rfl rfl (Or.inl rfl) rfl rfl (hX.lt (n := 1) ⟨by decide, by decide⟩ rfl (by omega)) ?_
      refine hg_ireturn d_M_town_175 rfl rfl ?_
      have hn100 := hG.2.2.2.2.2.2.1
      have hz : so_town G = (nI (gT G), gsT G ((gN G).1, hs_st (gN G), hs_hv (gN G), hs_rw (gN G), gT G + 1) (0, (gX G).2) (fun t => if t = gT G + 1 then ((fun f => (ps_tw (gX G).1 (gX G).2).2.2.1 (hs_N f)), (ps_tw (gX G).1 (gX G).2).2.2.2) else gW G t)) := (if_neg (show ¬ gT G = 6 by omega)).trans (if_pos ⟨hok, hend⟩)
      rw [hz]
      exact ⟨rfl, _, Lg, rfl, hM0.ts hw_ hc0 hT5 hcd hcw (by omega) hm2 htb hfe hil, fun k hk => by funext a b; (repeat rw [hg_u3k (by omega)]); rw [hw_.1 k (by omega) (by omega)], fun _ _ => rfl⟩
  · replace h6 := Decidable.not_not.mp h6
    have hy6 : gT G = 6 := (nI_eq (b := 6) (by omega) (by decide)).mp h6
    refine hg_bipush (v := (-4)) d_M_town_9 (by decide) ?_
    refine hg_ireturn d_M_town_11 rfl rfl ?_
    have hz : so_town G = (-4, G) := if_pos hy6
    rw [hz]
    exact ⟨rfl, I, Lg, rfl, hM0, fun _ _ => rfl, fun _ _ => rfl⟩

end M50b
