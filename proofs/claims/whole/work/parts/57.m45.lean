/-! the model: tapes -/
section M45
variable {l : Launch} {E : hg_E} {d : Nat}
variable {I : Nat → Nat → Nat → Int32} {Lg : Nat → Nat → Nat → Int64} {Rf : Nat → Nat → Nat → Option (Nat × Nat)} {X : Nat × (Nat → Nat) × (Nat → Nat → Nat)}
variable {G : hs_G}variable {I' I1 : Nat → Nat → Nat → Int32} {Lg' Lg1 : Nat → Nat → Nat → Int64}
theorem hs_nm1 {n : Nat} (h : n < 2 ^ 30) : ¬ nI n = -1 := fun z => by
  have := congrArg Int32.toInt z; rw [nI_toInt (by omega)] at this; exact absurd this (by rw [show (-1 : Int32).toInt = -1 by decide]; omega)
theorem lc_lt {a b : Nat} (ha : a < 2 ^ 63) (hb : b < 2 ^ 63) : lg_cmp (lN a) (lN b) < 0 ↔ a < b := by
  unfold lg_cmp
  by_cases h : lN a > lN b
  · rw [if_pos h]; have := (pk_lLT hb ha).mp h; exact ⟨fun z => absurd z (by decide), fun z => by omega⟩
  · rw [if_neg h]
    by_cases e : lN a = lN b
    · rw [if_pos e]; have := (pk_lEQ ha hb).mp e; exact ⟨fun z => absurd z (by decide), fun z => by omega⟩
    · rw [if_neg e]
      refine ⟨fun _ => ?_, fun _ => by decide⟩
      have h1 : ¬ b < a := fun z => h ((pk_lLT hb ha).mpr z)
      have h2 : ¬ a = b := fun z => e (by rw [z])
      omega
theorem lc_gt {a b : Nat} (ha : a < 2 ^ 63) (hb : b < 2 ^ 63) : 0 < lg_cmp (lN a) (lN b) ↔ b < a := by
  unfold lg_cmp
  by_cases h : lN a > lN b
  · rw [if_pos h]; have := (pk_lLT hb ha).mp h; exact ⟨fun _ => this, fun _ => by decide⟩
  · rw [if_neg h]
    have h1 : ¬ b < a := fun z => h ((pk_lLT hb ha).mpr z)
    by_cases e : lN a = lN b
    · rw [if_pos e]; exact ⟨fun z => absurd z (by decide), fun z => absurd z h1⟩
    · rw [if_neg e]; exact ⟨fun z => absurd z (by decide), fun z => absurd z h1⟩
theorem m_M_in4 {x : Int32} : hg_MC l E (d + 1) Y_M_within 0 0 [.int x, .int (-1), .int 4] (I, Lg, Rf, X) (hg_i (hg_bo (x = -1 ∨ ∃ j : Nat, j ≤ 4 ∧ x = nI j) (I, Lg, Rf, X))) := by
  have e : ((-1 : Int32) ≤ x ∧ x ≤ 4) ↔ (x = -1 ∨ ∃ j : Nat, j ≤ 4 ∧ x = nI j) := by
    constructor
    · rintro ⟨h1, h2⟩
      by_cases h0 : x < 0
      · left
        have h1 := Int32.le_iff_toInt_le.mp h1
        have h0 := Int32.lt_iff_toInt_lt.mp h0
        rw [show (-1 : Int32).toInt = -1 by decide] at h1
        rw [show (0 : Int32).toInt = 0 by decide] at h0
        apply Int32.toInt_inj.mp
        rw [show (-1 : Int32).toInt = -1 by decide]; omega
      · right; exact nI_of2 (M := 4) (n := 4) (by decide) h0 h2
    · rintro (rfl | ⟨j, hj, rfl⟩)
      · decide
      · exact ⟨Int32.le_iff_toInt_le.mpr (by rw [nI_toInt (by omega), show (-1 : Int32).toInt = -1 by decide]; omega), nI_le (b := 4) hj (by decide)⟩
  refine m_M_within.imp ?_
  rintro _ _ ⟨v, rfl, h, rfl⟩
  exact ⟨v, rfl, h.imp (fun q => ⟨e.mp q.1, q.2⟩) (fun q => ⟨fun z => q.1 (e.mpr z), q.2⟩), rfl⟩
/-- only TAPE t's cells changed -/
def hl_t (t : Nat) (Lg' Lg : Nat → Nat → Nat → Int64) : Prop := ∀ k i j, ¬ (k = 23 ∧ i = 0 ∧ 60 * t ≤ j ∧ j < 60 * t + 60) → Lg' k i j = Lg k i j
theorem hl_t.rf {t : Nat} : hl_t t Lg Lg := fun _ _ _ _ => rfl
theorem hl_t.u {t j : Nat} {x : Int64} (h : hl_t t Lg' Lg) (hj : j < 60) : hl_t t (hg_u3 Lg' 23 0 (60 * t + j) x) Lg := fun k i q hn => by
  rw [← h k i q hn]; unfold hg_u3; rw [if_neg (fun z => hn ⟨z.1, z.2.1, by omega, by omega⟩)]
theorem hl_t.lo {t : Nat} (h : hl_t t Lg' Lg) : ∀ k, k < 21 → Lg' k = Lg k := fun k hk => by funext i j; exact h k i j (by omega)
theorem hs_Mp.ot {t u : Nat} {a : hs_P} (h : hs_Mp u a I Lg) (hu : u ≠ t) (e1 : ∀ q, q ≠ t → I' 22 26 q = I 22 26 q) (e2 : ∀ q, q ≠ t → I' 22 27 q = I 22 27 q) (e3 : hl_t t Lg' Lg) : hs_Mp u a I' Lg' := ⟨(e1 u hu).trans h.1, (e2 u hu).trans h.2.1, fun j hj => (e3 23 0 _ (by omega)).trans (h.2.2 j hj)⟩
theorem m_M_isTape {x : Int32} : hg_MC l E (d + 2) Y_M_isTape 0 0 [.int x] (I, Lg, Rf, X) (hg_i (hg_bo (∃ j : Nat, j ≤ 5 ∧ x = nI j) (I, Lg, Rf, X))) := by
  refine hg_mc k_M_isTape (Nat.le_of_ble_eq_true rfl) ?_
  show hg_WP l E _ Y_M_isTape 0 0 0 [some (.int x)] [] (I, Lg, Rf, X) _
  refine hg_iload0 d_M_isTape_0 ?_
  refine hg_iconst (v := 0) d_M_isTape_1 (by decide) ?_
  refine hg_iconst (v := 5) d_M_isTape_2 (by decide) ?_
  refine hg_cSi d_M_isTape_3 l_M_111 rfl (Nat.le_of_ble_eq_true rfl) (m_M_in0 (b := 5) (by decide)) rfl ?_
  rintro _ _ ⟨⟨h, rfl⟩ | ⟨h, rfl⟩, rfl⟩
  · refine hg_ireturn d_M_isTape_6 rfl (by decide) ?_
    exact ⟨Or.inl ⟨h, rfl⟩, rfl⟩
  · refine hg_ireturn d_M_isTape_6 rfl (by decide) ?_
    exact ⟨Or.inr ⟨h, rfl⟩, rfl⟩

theorem m_M_kept {v : Int64} {k : Nat} (hk : k ≤ 4) : hg_MC l E (d + 1) Y_M_kept 0 0 [.int (nI k), .long v] (I, Lg, Rf, X) (hg_l (fun r M' => r = hs_cut k v ∧ M' = (I, Lg, Rf, X))) := by
  refine hg_mc k_M_kept (Nat.le_of_ble_eq_true rfl) ?_
  show hg_WP l E _ Y_M_kept 0 0 0 [some (.int (nI k)), some (.long v), none] [] (I, Lg, Rf, X) _
  refine hg_iload0 d_M_kept_0 ?_
  have h5 : k = 0 ∨ k = 1 ∨ k = 2 ∨ k = 3 ∨ k = 4 := by omega
  rcases h5 with rfl | rfl | rfl | rfl | rfl
  · show hg_WP l E _ Y_M_kept 0 0 1 [some (.int (nI 0)), some (.long v), none] [.int 0] (I, Lg, Rf, X) _
    refine hg_tabI (off := 31) (tgt := 32) d_M_kept_1 (by decide) (by decide) rfl (by decide) ?_
    refine hg_lload1 d_M_kept_32 ?_
    refine hg_l2i d_M_kept_33 ?_
    refine hg_i2b d_M_kept_34 ?_
    refine hg_i2l d_M_kept_35 ?_
    refine hg_lreturn d_M_kept_36 rfl ?_
    exact ⟨rfl, rfl⟩
  · show hg_WP l E _ Y_M_kept 0 0 1 [some (.int (nI 1)), some (.long v), none] [.int 1] (I, Lg, Rf, X) _
    refine hg_tabI (off := 36) (tgt := 37) d_M_kept_1 (by decide) (by decide) rfl (by decide) ?_
    refine hg_lload1 d_M_kept_37 ?_
    refine hg_l2i d_M_kept_38 ?_
    refine hg_i2s d_M_kept_39 ?_
    refine hg_i2l d_M_kept_40 ?_
    refine hg_lreturn d_M_kept_41 rfl ?_
    exact ⟨rfl, rfl⟩
  · show hg_WP l E _ Y_M_kept 0 0 1 [some (.int (nI 2)), some (.long v), none] [.int 2] (I, Lg, Rf, X) _
    refine hg_tabI (off := 41) (tgt := 42) d_M_kept_1 (by decide) (by decide) rfl (by decide) ?_
    refine hg_lload1 d_M_kept_42 ?_
    refine hg_l2i d_M_kept_43 ?_
    refine hg_i2l d_M_kept_44 ?_
    refine hg_lreturn d_M_kept_45 rfl ?_
    exact ⟨rfl, rfl⟩
  · show hg_WP l E _ Y_M_kept 0 0 1 [some (.int (nI 3)), some (.long v), none] [.int 3] (I, Lg, Rf, X) _
    refine hg_tabI (off := 45) (tgt := 46) d_M_kept_1 (by decide) (by decide) rfl (by decide) ?_
    refine hg_lload1 d_M_kept_46 ?_
    refine hg_lreturn d_M_kept_47 rfl ?_
    exact ⟨rfl, rfl⟩
  · show hg_WP l E _ Y_M_kept 0 0 1 [some (.int (nI 4)), some (.long v), none] [.int 4] (I, Lg, Rf, X) _
    refine hg_tabO (tgt := 48) d_M_kept_1 (by decide) (by decide) ?_
    refine hg_lload1 d_M_kept_48 ?_
    refine hg_lconst (v := 0) d_M_kept_49 (by decide) ?_
    refine hg_lcmp d_M_kept_50 ?_
    refine hg_if_eq (tgt := 58) d_M_kept_51 (by decide) (fun hz => ?_) (fun hz => ?_)
    · refine hg_lconst (v := 0) d_M_kept_58 (by decide) ?_
      refine hg_lreturn d_M_kept_59 rfl ?_
      exact ⟨(if_pos ((hs_lcmp0 v).mp hz)).symm, rfl⟩
    · refine hg_lconst (v := 1) d_M_kept_54 (by decide) ?_
      refine hg_goto (tgt := 59) d_M_kept_55 (by decide) ?_
      refine hg_lreturn d_M_kept_59 rfl ?_
      exact ⟨(if_neg (fun e => hz ((hs_lcmp0 v).mpr e))).symm, rfl⟩

theorem m_M_tape_loop {t : Nat} {x n : Int32} {T : Nat} {Q : Option Value → hg_M → Prop} (hX : hg_XS T X) (hR : hg_SR T Rf) (ht : t < 6) (K : ∀ Lg2 : Nat → Nat → Nat → Int64, hl_t t Lg2 Lg → (∀ j, j < 60 → Lg2 23 0 (60 * t + j) = 0) → hg_WP l E (d + 2) Y_M_tape 0 0 93 [some (.ref (hg_ad E 21 0)), some (.int (nI t)), some (.int x), some (.int n), some (.int (nI 60))] [] (I, Lg2, Rf, X) (Q)) : ∀ (k i : Nat) (Lg1 : Nat → Nat → Nat → Int64), i + k = 60 → hl_t t Lg1 Lg → (∀ j, j < i → Lg1 23 0 (60 * t + j) = 0) → hg_WP l E (d + 2) Y_M_tape 0 0 67 [some (.ref (hg_ad E 21 0)), some (.int (nI t)), some (.int x), some (.int n), some (.int (nI i))] [] (I, Lg1, Rf, X) (Q) := by
  intro k
  induction k with
  | zero =>
    intro i Lg1 hik hl hz
    obtain rfl : i = 60 := by omega
    refine hg_iload4 d_M_tape_67 ?_
    refine hg_bipush (v := 60) d_M_tape_69 (by decide) ?_
    refine hg_icmp_ge (tgt := 93) d_M_tape_71 (by decide) (fun h_1 => ?_) (fun h_1 => absurd (by decide) h_1)
    exact K Lg1 hl hz
  | succ k ih =>
    intro i Lg1 hik hl hz
    refine hg_iload4 d_M_tape_67 ?_
    refine hg_bipush (v := 60) d_M_tape_69 (by decide) ?_
    refine hg_icmp_ge (tgt := 93) d_M_tape_71 (by decide) (fun h_2 => absurd h_2 (nI_ge (a := i) (b := 60) (by omega) (by decide))) (fun h_2 => ?_)
    refine hg_aload0 d_M_tape_74 ?_
    refine hg_getR d_M_tape_75 f_M_100 rfl rfl (hX.lt (n := 1) ⟨by decide, by decide⟩ rfl (by omega)) (hR.m (j := 47) (q := (23, 0)) rfl) ?_
    refine hg_bipush (v := 60) d_M_tape_78 (by decide) ?_
    refine hg_iload1 d_M_tape_80 ?_
    refine hg_imul d_M_tape_81 ?_
    refine hg_eq1 (y := nI (60 * t)) (pk_mul _ _) ?_
    refine hg_iload4 d_M_tape_82 ?_
    refine hg_iadd d_M_tape_84 ?_
    refine hg_eq1 (y := nI ((60 * t) + i)) (nI_add _ _) ?_
    refine hg_lconst (v := 0) d_M_tape_85 (by decide) ?_
    refine hg_last_n (j := ((60 * t) + i)) d_M_tape_86 rfl rfl (hX.lt (n := 1) ⟨by decide, by decide⟩ rfl (by omega)) (hX.jn (n := 360) (by decide) rfl (by omega)) ?_
    refine hg_iinc4 (v := nI (i + 1)) d_M_tape_87 rfl (nI_add _ _) ?_
    refine hg_goto (tgt := 67) d_M_tape_90 (by decide) ?_
    refine ih (i + 1) _ (by omega) (hl.u (by omega)) (fun j hj => ?_)
    rw [hg_u3r]; by_cases z : j = i
    · rw [if_pos (by omega)]
    · rw [if_neg (by omega)]; exact hz j (by omega)
theorem m_M_tape {x y n : Int32} (hX : hg_XS (gT G) X) (hR : hg_SR (gT G) Rf) (hM0 : hs_MR G I Lg) (hG : hs_gok G) : hg_MC l E (d + 3) Y_M_tape 0 0 [.ref (hg_ad E 21 0), .int x, .int y, .int n] (I, Lg, Rf, X) (hg_i (fun v M' => hs_MP v (so_tape G x y n).1 (so_tape G x y n).2 I Lg Rf X M')) := by
  have hM := hM0.1.1
  have hO := hG.1
  have hn6 := hO.1
  have hT := hM0.2.2.2.2.2.2.2
  have hw := hG.2.1
  have hPk := hG.2.2.2.2.2.2.2.2.2.2
  refine hg_mc k_M_tape (Nat.le_of_ble_eq_true rfl) ?_
  show hg_WP l E _ Y_M_tape 0 0 0 [some (.ref (hg_ad E 21 0)), some (.int x), some (.int y), some (.int n), none] [] (I, Lg, Rf, X) _
  refine hg_iload1 d_M_tape_0 ?_
  refine hg_cSi d_M_tape_1 l_M_324 rfl (Nat.le_of_ble_eq_true rfl) (m_M_isTape) rfl ?_
  rintro _ _ ⟨⟨hta, rfl⟩ | ⟨hta, rfl⟩, rfl⟩
  · obtain ⟨t, ht0, et⟩ := hta
    have ht : t < 6 := by omega
    have ita : hs_ix 6 x = some t := by rw [et]; exact hs_ix_s ht (by decide)
    have hPt := hM0.2.2.2.2.2.2.1 t ht
    have hkt := hPk t ht
    have hszt := hkt.1
    subst et
    show hg_WP l E _ Y_M_tape 0 0 4 [some (.ref (hg_ad E 21 0)), some (.int (nI t)), some (.int y), some (.int n), none] [.int 1] (I, Lg, Rf, X) _
    refine hg_if_ne (tgt := 9) d_M_tape_4 (by decide) (fun h_1 => ?_) (fun h_1 => absurd (by decide) h_1)
    refine hg_iload2 d_M_tape_9 ?_
    refine hg_iconst (v := (-1)) d_M_tape_10 (by decide) ?_
    refine hg_iconst (v := 4) d_M_tape_11 (by decide) ?_
    refine hg_cSi d_M_tape_12 l_M_111 rfl (Nat.le_of_ble_eq_true rfl) (m_M_in4) rfl ?_
    rintro _ _ ⟨⟨hm | hm, rfl⟩ | ⟨hm, rfl⟩, rfl⟩
    · subst hm
      show hg_WP l E _ Y_M_tape 0 0 15 [some (.ref (hg_ad E 21 0)), some (.int (nI t)), some (.int (-1)), some (.int n), none] [.int 1] (I, Lg, Rf, X) _
      refine hg_if_eq (tgt := 28) d_M_tape_15 (by decide) (fun h_2 => absurd h_2 (by decide)) (fun h_2 => ?_)
      refine hg_iload2 d_M_tape_18 ?_
      refine hg_if_lt (tgt := 31) d_M_tape_19 (by decide) (fun h_3 => ?_) (fun h_3 => absurd (by decide) h_3)
      refine hg_iload2 d_M_tape_31 ?_
      refine hg_if_lt (tgt := 42) d_M_tape_32 (by decide) (fun h_4 => ?_) (fun h_4 => absurd (by decide) h_4)
      refine hg_aload0 d_M_tape_42 ?_
      refine hg_getR d_M_tape_43 f_M_94 rfl rfl (hX.lt (n := 1) ⟨by decide, by decide⟩ rfl (by omega)) (hR.m (j := 45) (q := (22, 26)) rfl) ?_
      refine hg_iload1 d_M_tape_46 ?_
      refine hg_iload2 d_M_tape_47 ?_
      refine hg_iast_n (j := t) d_M_tape_48 rfl rfl (hX.lt (n := 28) ⟨by decide, by decide⟩ rfl (by omega)) (hX.jn (n := 6) (by decide) rfl (by omega)) ?_
      refine hg_aload0 d_M_tape_49 ?_
      refine hg_getR d_M_tape_50 f_M_97 rfl rfl (hX.lt (n := 1) ⟨by decide, by decide⟩ rfl (by omega)) (hR.m (j := 46) (q := (22, 27)) rfl) ?_
      refine hg_iload1 d_M_tape_53 ?_
      refine hg_iload2 d_M_tape_54 ?_
      refine hg_if_ge (tgt := 62) d_M_tape_55 (by decide) (fun h_5 => absurd h_5 (by decide)) (fun h_5 => ?_)
      refine hg_iconst (v := 0) d_M_tape_58 (by decide) ?_
      refine hg_goto (tgt := 63) d_M_tape_59 (by decide) ?_
      refine hg_iast_n (j := t) d_M_tape_63 rfl rfl (hX.lt (n := 28) ⟨by decide, by decide⟩ rfl (by omega)) (hX.jn (n := 6) (by decide) rfl (by omega)) ?_
      refine hg_iconst (v := 0) d_M_tape_64 (by decide) ?_
      refine hg_istore4 d_M_tape_65 rfl ?_
      refine m_M_tape_loop (I := (hg_u3 (hg_u3 I 22 26 t (-1)) 22 27 t 0)) hX hR ht ?_ 60 0 Lg (Nat.zero_add _) hl_t.rf (fun j hj => absurd hj (Nat.not_lt_zero _))
      intro Lg2 hl hzr
      refine hg_iconst (v := 1) d_M_tape_93 (by decide) ?_
      refine hg_ireturn d_M_tape_94 rfl rfl ?_
      have hz : so_tape G (nI t) (-1) n = (1, gsP G t ((-1 : Int32), 0, fun _ => (0 : Int64))) := by simp [so_tape, ita]
      rw [hz]
      exact ⟨rfl, _, Lg2, rfl, hM0.P (fun r a b => by funext z; rw [hg_u3k (by omega), hg_u3k (by omega)]) (by funext a b; rw [hg_u3k (by omega), hg_u3k (by omega)]) (fun u hu hut => (hM0.2.2.2.2.2.2.1 u hu).ot hut (fun q hq => by rw [hg_u3k (by omega), hg_u3r, if_neg hq]) (fun q hq => by rw [hg_u3r, if_neg hq, hg_u3k (by omega)]) hl) ⟨by rw [hg_u3k (by omega), hg_u3s], hg_u3s _ _ _ _ _, hzr⟩, fun k hk => by funext a b; rw [hg_u3k (by omega), hg_u3k (by omega)], hl.lo⟩
    · obtain ⟨k, hk, ek⟩ := hm
      subst ek
      show hg_WP l E _ Y_M_tape 0 0 15 [some (.ref (hg_ad E 21 0)), some (.int (nI t)), some (.int (nI k)), some (.int n), none] [.int 1] (I, Lg, Rf, X) _
      have iy : hs_ix 5 (nI k) = some k := hs_ix_s (by omega) (by decide)
      have ny : ¬ nI k = -1 := hs_nm1 (by omega)
      refine hg_if_eq (tgt := 28) d_M_tape_15 (by decide) (fun h_6 => absurd h_6 (by decide)) (fun h_6 => ?_)
      refine hg_iload2 d_M_tape_18 ?_
      refine hg_if_lt (tgt := 31) d_M_tape_19 (by decide) (fun h_7 => absurd h_7 (Int32.not_lt.mpr (nI_le (a := 0) (b := k) (Nat.zero_le _) (by omega)))) (fun h_7 => ?_)
      refine hg_iload3 d_M_tape_22 ?_
      refine hg_bipush (v := 60) d_M_tape_23 (by decide) ?_
      refine hg_icmp_le (tgt := 31) d_M_tape_25 (by decide) (fun h60 => ?_) (fun h60 => ?_)
      · have g60 : ¬ 60 < n := Int32.not_lt.mpr h60
        refine hg_iload2 d_M_tape_31 ?_
        refine hg_if_lt (tgt := 42) d_M_tape_32 (by decide) (fun h_8 => absurd h_8 (Int32.not_lt.mpr (nI_le (a := 0) (b := k) (Nat.zero_le _) (by omega)))) (fun h_8 => ?_)
        refine hg_iload3 d_M_tape_35 ?_
        refine hg_if_ge (tgt := 42) d_M_tape_36 (by decide) (fun hn0 => ?_) (fun hn0 => ?_)
        · have gn0 : ¬ n < 0 := Int32.not_lt.mpr hn0
          obtain ⟨m, hm60, em⟩ := nI_of2 (M := 60) (n := 60) (by decide) gn0 h60
          refine hg_aload0 d_M_tape_42 ?_
          refine hg_getR d_M_tape_43 f_M_94 rfl rfl (hX.lt (n := 1) ⟨by decide, by decide⟩ rfl (by omega)) (hR.m (j := 45) (q := (22, 26)) rfl) ?_
          refine hg_iload1 d_M_tape_46 ?_
          refine hg_iload2 d_M_tape_47 ?_
          refine hg_iast_n (j := t) d_M_tape_48 rfl rfl (hX.lt (n := 28) ⟨by decide, by decide⟩ rfl (by omega)) (hX.jn (n := 6) (by decide) rfl (by omega)) ?_
          refine hg_aload0 d_M_tape_49 ?_
          refine hg_getR d_M_tape_50 f_M_97 rfl rfl (hX.lt (n := 1) ⟨by decide, by decide⟩ rfl (by omega)) (hR.m (j := 46) (q := (22, 27)) rfl) ?_
          refine hg_iload1 d_M_tape_53 ?_
          refine hg_iload2 d_M_tape_54 ?_
          refine hg_if_ge (tgt := 62) d_M_tape_55 (by decide) (fun h_9 => ?_) (fun h_9 => absurd (nI_le (a := 0) (b := k) (Nat.zero_le _) (by omega)) h_9)
          refine hg_iload3 d_M_tape_62 ?_
          refine hg_iast_n (j := t) d_M_tape_63 rfl rfl (hX.lt (n := 28) ⟨by decide, by decide⟩ rfl (by omega)) (hX.jn (n := 6) (by decide) rfl (by omega)) ?_
          refine hg_iconst (v := 0) d_M_tape_64 (by decide) ?_
          refine hg_istore4 d_M_tape_65 rfl ?_
          subst em
          show hg_WP l E _ Y_M_tape 0 0 67 [some (.ref (hg_ad E 21 0)), some (.int (nI t)), some (.int (nI k)), some (.int (nI m)), some (.int 0)] [] ((hg_u3 (hg_u3 I 22 26 t (nI k)) 22 27 t (nI m)), Lg, Rf, X) _
          refine m_M_tape_loop (I := (hg_u3 (hg_u3 I 22 26 t (nI k)) 22 27 t (nI m))) hX hR ht ?_ 60 0 Lg (Nat.zero_add _) hl_t.rf (fun j hj => absurd hj (Nat.not_lt_zero _))
          intro Lg2 hl hzr
          refine hg_iconst (v := 1) d_M_tape_93 (by decide) ?_
          refine hg_ireturn d_M_tape_94 rfl rfl ?_
          have hz : so_tape G (nI t) (nI k) (nI m) = (1, gsP G t (nI k, m, fun _ => (0 : Int64))) := by simp [so_tape, ita, iy, ny, g60, gn0, nI_clamp (show m < 2 ^ 31 by omega)]
          rw [hz]
          exact ⟨rfl, _, Lg2, rfl, hM0.P (fun r a b => by funext z; rw [hg_u3k (by omega), hg_u3k (by omega)]) (by funext a b; rw [hg_u3k (by omega), hg_u3k (by omega)]) (fun u hu hut => (hM0.2.2.2.2.2.2.1 u hu).ot hut (fun q hq => by rw [hg_u3k (by omega), hg_u3r, if_neg hq]) (fun q hq => by rw [hg_u3r, if_neg hq, hg_u3k (by omega)]) hl) ⟨by rw [hg_u3k (by omega), hg_u3s], hg_u3s _ _ _ _ _, hzr⟩, fun k hk => by funext a b; rw [hg_u3k (by omega), hg_u3k (by omega)], hl.lo⟩
        · have gn0 : n < 0 := Int32.not_le.mp hn0
          refine hg_bipush (v := (-14)) d_M_tape_39 (by decide) ?_
          refine hg_ireturn d_M_tape_41 rfl rfl ?_
          have hz : so_tape G (nI t) (nI k) n = (-14, G) := by simp [so_tape, ita, iy, ny, g60, gn0]
          rw [hz]
          exact ⟨rfl, I, Lg, rfl, hM0, fun _ _ => rfl, fun _ _ => rfl⟩
      · have g60 : 60 < n := Int32.not_le.mp h60
        refine hg_bipush (v := (-2)) d_M_tape_28 (by decide) ?_
        refine hg_ireturn d_M_tape_30 rfl rfl ?_
        have hz : so_tape G (nI t) (nI k) n = (-2, G) := by simp [so_tape, ita, iy, ny, g60]
        rw [hz]
        exact ⟨rfl, I, Lg, rfl, hM0, fun _ _ => rfl, fun _ _ => rfl⟩
    · have ny : ¬ y = -1 := fun z => hm (Or.inl z)
      have iy : hs_ix 5 y = none := hs_ix_n2 (b := 4) (fun z => hm (Or.inr z))
      refine hg_if_eq (tgt := 28) d_M_tape_15 (by decide) (fun h_10 => ?_) (fun h_10 => absurd (by decide) h_10)
      refine hg_bipush (v := (-2)) d_M_tape_28 (by decide) ?_
      refine hg_ireturn d_M_tape_30 rfl rfl ?_
      have hz : so_tape G (nI t) y n = (-2, G) := by simp [so_tape, ita, iy, ny]
      rw [hz]
      exact ⟨rfl, I, Lg, rfl, hM0, fun _ _ => rfl, fun _ _ => rfl⟩
  · have ita : hs_ix 6 x = none := hs_ix_n2 (b := 5) hta
    refine hg_if_ne (tgt := 9) d_M_tape_4 (by decide) (fun h_11 => absurd h_11 (by decide)) (fun h_11 => ?_)
    refine hg_iconst (v := (-1)) d_M_tape_7 (by decide) ?_
    refine hg_ireturn d_M_tape_8 rfl rfl ?_
    have hz : so_tape G x y n = (-1, G) := by simp [so_tape, ita]
    rw [hz]
    exact ⟨rfl, I, Lg, rfl, hM0, fun _ _ => rfl, fun _ _ => rfl⟩

theorem m_M_item {x i : Int32} {u : Int64} (hX : hg_XS (gT G) X) (hR : hg_SR (gT G) Rf) (hM0 : hs_MR G I Lg) (hG : hs_gok G) : hg_MC l E (d + 3) Y_M_item 0 0 [.ref (hg_ad E 21 0), .int x, .int i, .long u] (I, Lg, Rf, X) (hg_i (fun v M' => hs_MP v (so_item G x i u).1 (so_item G x i u).2 I Lg Rf X M')) := by
  have hM := hM0.1.1
  have hO := hG.1
  have hn6 := hO.1
  have hT := hM0.2.2.2.2.2.2.2
  have hw := hG.2.1
  have hPk := hG.2.2.2.2.2.2.2.2.2.2
  refine hg_mc k_M_item (Nat.le_of_ble_eq_true rfl) ?_
  show hg_WP l E _ Y_M_item 0 0 0 [some (.ref (hg_ad E 21 0)), some (.int x), some (.int i), some (.long u), none] [] (I, Lg, Rf, X) _
  refine hg_iload1 d_M_item_0 ?_
  refine hg_cSi d_M_item_1 l_M_324 rfl (Nat.le_of_ble_eq_true rfl) (m_M_isTape) rfl ?_
  rintro _ _ ⟨⟨hta, rfl⟩ | ⟨hta, rfl⟩, rfl⟩
  · obtain ⟨t, ht0, et⟩ := hta
    have ht : t < 6 := by omega
    have ita : hs_ix 6 x = some t := by rw [et]; exact hs_ix_s ht (by decide)
    have hPt := hM0.2.2.2.2.2.2.1 t ht
    have hkt := hPk t ht
    have hszt := hkt.1
    subst et
    show hg_WP l E _ Y_M_item 0 0 4 [some (.ref (hg_ad E 21 0)), some (.int (nI t)), some (.int i), some (.long u), none] [.int 1] (I, Lg, Rf, X) _
    refine hg_if_ne (tgt := 9) d_M_item_4 (by decide) (fun h_1 => ?_) (fun h_1 => absurd (by decide) h_1)
    refine hg_aload0 d_M_item_9 ?_
    refine hg_getR d_M_item_10 f_M_94 rfl rfl (hX.lt (n := 1) ⟨by decide, by decide⟩ rfl (by omega)) (hR.m (j := 45) (q := (22, 26)) rfl) ?_
    refine hg_iload1 d_M_item_13 ?_
    refine hg_iald_n (j := t) d_M_item_14 rfl rfl (hX.lt (n := 28) ⟨by decide, by decide⟩ rfl (by omega)) (hX.jn (n := 6) (by decide) rfl (by omega)) ?_
    refine hg_eq1 (y := (gP G t).1) (hPt.1) ?_
    rcases hkt.2 with ⟨es, zs⟩ | ⟨k, hk5, es⟩
    · refine hg_eq1 (y := -1) es ?_
      refine hg_if_ge (tgt := 21) d_M_item_15 (by decide) (fun h_2 => absurd h_2 (by decide)) (fun h_2 => ?_)
      refine hg_bipush (v := (-11)) d_M_item_18 (by decide) ?_
      refine hg_ireturn d_M_item_20 rfl rfl ?_
      have hz : so_item G (nI t) i u = (-11, G) := by simp [so_item, ita, es]
      rw [hz]
      exact ⟨rfl, I, Lg, rfl, hM0, fun _ _ => rfl, fun _ _ => rfl⟩
    · refine hg_eq1 (y := nI k) es ?_
      have ns : ¬ (gP G t).1 = -1 := fun z => hs_nm1 (show k < 2 ^ 30 by omega) (es.symm.trans z)
      have cs : (gP G t).1.toNatClampNeg = k := by rw [es]; exact nI_clamp (by omega)
      refine hg_if_ge (tgt := 21) d_M_item_15 (by decide) (fun h_3 => ?_) (fun h_3 => absurd (nI_le (a := 0) (b := k) (Nat.zero_le _) (by omega)) h_3)
      refine hg_iload2 d_M_item_21 ?_
      refine hg_iconst (v := 0) d_M_item_22 (by decide) ?_
      refine hg_aload0 d_M_item_23 ?_
      refine hg_getR d_M_item_24 f_M_97 rfl rfl (hX.lt (n := 1) ⟨by decide, by decide⟩ rfl (by omega)) (hR.m (j := 46) (q := (22, 27)) rfl) ?_
      refine hg_iload1 d_M_item_27 ?_
      refine hg_iald_n (j := t) d_M_item_28 rfl rfl (hX.lt (n := 28) ⟨by decide, by decide⟩ rfl (by omega)) (hX.jn (n := 6) (by decide) rfl (by omega)) ?_
      refine hg_eq1 (y := nI (gP G t).2.1) (hPt.2.1) ?_
      refine hg_iconst (v := 1) d_M_item_29 (by decide) ?_
      refine hg_isub d_M_item_30 ?_
      refine hg_cSi d_M_item_31 l_M_111 rfl (Nat.le_of_ble_eq_true rfl) (m_M_inm (m := (gP G t).2.1) (by omega)) rfl ?_
      rintro _ _ ⟨⟨hw0, rfl⟩ | ⟨hw0, rfl⟩, rfl⟩
      · obtain ⟨j, hj, ej⟩ := hw0
        subst ej
        show hg_WP l E _ Y_M_item 0 0 34 [some (.ref (hg_ad E 21 0)), some (.int (nI t)), some (.int (nI j)), some (.long u), none] [.int 1] (I, Lg, Rf, X) _
        have iw : hs_ix (gP G t).2.1 (nI j) = some j := hs_ix_s hj (by omega)
        refine hg_if_ne (tgt := 40) d_M_item_34 (by decide) (fun h_4 => ?_) (fun h_4 => absurd (by decide) h_4)
        refine hg_aload0 d_M_item_40 ?_
        refine hg_getR d_M_item_41 f_M_100 rfl rfl (hX.lt (n := 1) ⟨by decide, by decide⟩ rfl (by omega)) (hR.m (j := 47) (q := (23, 0)) rfl) ?_
        refine hg_bipush (v := 60) d_M_item_44 (by decide) ?_
        refine hg_iload1 d_M_item_46 ?_
        refine hg_imul d_M_item_47 ?_
        refine hg_eq1 (y := nI (60 * t)) (pk_mul _ _) ?_
        refine hg_iload2 d_M_item_48 ?_
        refine hg_iadd d_M_item_49 ?_
        refine hg_eq1 (y := nI ((60 * t) + j)) (nI_add _ _) ?_
        refine hg_aload0 d_M_item_50 ?_
        refine hg_getR d_M_item_51 f_M_94 rfl rfl (hX.lt (n := 1) ⟨by decide, by decide⟩ rfl (by omega)) (hR.m (j := 45) (q := (22, 26)) rfl) ?_
        refine hg_iload1 d_M_item_54 ?_
        refine hg_iald_n (j := t) d_M_item_55 rfl rfl (hX.lt (n := 28) ⟨by decide, by decide⟩ rfl (by omega)) (hX.jn (n := 6) (by decide) rfl (by omega)) ?_
        refine hg_eq1 (y := (gP G t).1) (hPt.1) ?_
        refine hg_lload3 d_M_item_56 ?_
        rw [es]
        refine hg_cSl d_M_item_57 l_M_327 rfl (Nat.le_of_ble_eq_true rfl) (m_M_kept (k := k) hk5) rfl ?_
        rintro _ _ ⟨rfl, rfl⟩
        refine hg_last_n (j := ((60 * t) + j)) d_M_item_60 rfl rfl (hX.lt (n := 1) ⟨by decide, by decide⟩ rfl (by omega)) (hX.jn (n := 360) (by decide) rfl (by omega)) ?_
        refine hg_iconst (v := 1) d_M_item_61 (by decide) ?_
        refine hg_ireturn d_M_item_62 rfl rfl ?_
        have hz : so_item G (nI t) (nI j) u = (1, gsP G t ((gP G t).1, (gP G t).2.1, hs_uL (gP G t).2.2 j (hs_cut k u))) := by simp [so_item, ita, ns, iw, cs]
        rw [hz]
        exact ⟨rfl, _, _, rfl, hM0.P (fun r a b => rfl) rfl (fun w hu hut => (hM0.2.2.2.2.2.2.1 w hu).ot hut (fun _ _ => rfl) (fun _ _ => rfl) (hl_t.rf.u (by omega))) ⟨hPt.1, hPt.2.1, fun q hq => by rw [hg_u3r]; show _ = (if q = j then hs_cut k u else (gP G t).2.2 q); by_cases z : q = j; (rw [if_pos (by omega), if_pos z]); (rw [if_neg (by omega), if_neg z]; exact hPt.2.2 q hq)⟩, fun _ _ => rfl, (hl_t.rf.u (t := t) (by omega)).lo⟩
      · have iw : hs_ix (gP G t).2.1 i = none := hs_ix_n hw0
        refine hg_if_ne (tgt := 40) d_M_item_34 (by decide) (fun h_5 => absurd h_5 (by decide)) (fun h_5 => ?_)
        refine hg_bipush (v := (-13)) d_M_item_37 (by decide) ?_
        refine hg_ireturn d_M_item_39 rfl rfl ?_
        have hz : so_item G (nI t) i u = (-13, G) := by simp [so_item, ita, ns, iw]
        rw [hz]
        exact ⟨rfl, I, Lg, rfl, hM0, fun _ _ => rfl, fun _ _ => rfl⟩
  · have ita : hs_ix 6 x = none := hs_ix_n2 (b := 5) hta
    refine hg_if_ne (tgt := 9) d_M_item_4 (by decide) (fun h_6 => absurd h_6 (by decide)) (fun h_6 => ?_)
    refine hg_iconst (v := (-1)) d_M_item_7 (by decide) ?_
    refine hg_ireturn d_M_item_8 rfl rfl ?_
    have hz : so_item G x i u = (-1, G) := by simp [so_item, ita]
    rw [hz]
    exact ⟨rfl, I, Lg, rfl, hM0, fun _ _ => rfl, fun _ _ => rfl⟩

theorem m_M_read {x i : Int32} (hX : hg_XS (gT G) X) (hR : hg_SR (gT G) Rf) (hM0 : hs_MR G I Lg) (hG : hs_gok G) : hg_MC l E (d + 3) Y_M_read 0 0 [.ref (hg_ad E 21 0), .int x, .int i] (I, Lg, Rf, X) (hg_l (fun v M' => hs_MP v (sp_read (gP G) x i) G I Lg Rf X M')) := by
  have hM := hM0.1.1
  have hO := hG.1
  have hn6 := hO.1
  have hT := hM0.2.2.2.2.2.2.2
  have hw := hG.2.1
  have hPk := hG.2.2.2.2.2.2.2.2.2.2
  refine hg_mc k_M_read (Nat.le_of_ble_eq_true rfl) ?_
  show hg_WP l E _ Y_M_read 0 0 0 [some (.ref (hg_ad E 21 0)), some (.int x), some (.int i)] [] (I, Lg, Rf, X) _
  refine hg_iload1 d_M_read_0 ?_
  refine hg_cSi d_M_read_1 l_M_324 rfl (Nat.le_of_ble_eq_true rfl) (m_M_isTape) rfl ?_
  rintro _ _ ⟨⟨hta, rfl⟩ | ⟨hta, rfl⟩, rfl⟩
  · obtain ⟨t, ht0, et⟩ := hta
    have ht : t < 6 := by omega
    have ita : hs_ix 6 x = some t := by rw [et]; exact hs_ix_s ht (by decide)
    have hPt := hM0.2.2.2.2.2.2.1 t ht
    have hkt := hPk t ht
    have hszt := hkt.1
    subst et
    show hg_WP l E _ Y_M_read 0 0 4 [some (.ref (hg_ad E 21 0)), some (.int (nI t)), some (.int i)] [.int 1] (I, Lg, Rf, X) _
    refine hg_if_eq (tgt := 46) d_M_read_4 (by decide) (fun h_1 => absurd h_1 (by decide)) (fun h_1 => ?_)
    refine hg_aload0 d_M_read_7 ?_
    refine hg_getR d_M_read_8 f_M_94 rfl rfl (hX.lt (n := 1) ⟨by decide, by decide⟩ rfl (by omega)) (hR.m (j := 45) (q := (22, 26)) rfl) ?_
    refine hg_iload1 d_M_read_11 ?_
    refine hg_iald_n (j := t) d_M_read_12 rfl rfl (hX.lt (n := 28) ⟨by decide, by decide⟩ rfl (by omega)) (hX.jn (n := 6) (by decide) rfl (by omega)) ?_
    refine hg_eq1 (y := (gP G t).1) (hPt.1) ?_
    rcases hkt.2 with ⟨es, zs⟩ | ⟨k, hk5, es⟩
    · refine hg_eq1 (y := -1) es ?_
      have iw : hs_ix (gP G t).2.1 i = none := hs_ix_n (fun ⟨j, hj, _⟩ => by rw [zs] at hj; exact absurd hj (Nat.not_lt_zero _))
      refine hg_if_lt (tgt := 46) d_M_read_13 (by decide) (fun h_2 => ?_) (fun h_2 => absurd (by decide) h_2)
      refine hg_ldc2 d_M_read_46 c_M_288 ?_
      refine hg_lreturn d_M_read_49 rfl ?_
      refine ⟨?_, I, Lg, rfl, hM0, fun _ _ => rfl, fun _ _ => rfl⟩
      simp [sp_read, ita, iw]
    · refine hg_eq1 (y := nI k) es ?_
      refine hg_if_lt (tgt := 46) d_M_read_13 (by decide) (fun h_3 => absurd h_3 (Int32.not_lt.mpr (nI_le (a := 0) (b := k) (Nat.zero_le _) (by omega)))) (fun h_3 => ?_)
      refine hg_iload2 d_M_read_16 ?_
      refine hg_iconst (v := 0) d_M_read_17 (by decide) ?_
      refine hg_aload0 d_M_read_18 ?_
      refine hg_getR d_M_read_19 f_M_97 rfl rfl (hX.lt (n := 1) ⟨by decide, by decide⟩ rfl (by omega)) (hR.m (j := 46) (q := (22, 27)) rfl) ?_
      refine hg_iload1 d_M_read_22 ?_
      refine hg_iald_n (j := t) d_M_read_23 rfl rfl (hX.lt (n := 28) ⟨by decide, by decide⟩ rfl (by omega)) (hX.jn (n := 6) (by decide) rfl (by omega)) ?_
      refine hg_eq1 (y := nI (gP G t).2.1) (hPt.2.1) ?_
      refine hg_iconst (v := 1) d_M_read_24 (by decide) ?_
      refine hg_isub d_M_read_25 ?_
      refine hg_cSi d_M_read_26 l_M_111 rfl (Nat.le_of_ble_eq_true rfl) (m_M_inm (m := (gP G t).2.1) (by omega)) rfl ?_
      rintro _ _ ⟨⟨hw0, rfl⟩ | ⟨hw0, rfl⟩, rfl⟩
      · obtain ⟨j, hj, ej⟩ := hw0
        subst ej
        show hg_WP l E _ Y_M_read 0 0 29 [some (.ref (hg_ad E 21 0)), some (.int (nI t)), some (.int (nI j))] [.int 1] (I, Lg, Rf, X) _
        have iw : hs_ix (gP G t).2.1 (nI j) = some j := hs_ix_s hj (by omega)
        refine hg_if_eq (tgt := 46) d_M_read_29 (by decide) (fun h_4 => absurd h_4 (by decide)) (fun h_4 => ?_)
        refine hg_aload0 d_M_read_32 ?_
        refine hg_getR d_M_read_33 f_M_100 rfl rfl (hX.lt (n := 1) ⟨by decide, by decide⟩ rfl (by omega)) (hR.m (j := 47) (q := (23, 0)) rfl) ?_
        refine hg_bipush (v := 60) d_M_read_36 (by decide) ?_
        refine hg_iload1 d_M_read_38 ?_
        refine hg_imul d_M_read_39 ?_
        refine hg_eq1 (y := nI (60 * t)) (pk_mul _ _) ?_
        refine hg_iload2 d_M_read_40 ?_
        refine hg_iadd d_M_read_41 ?_
        refine hg_eq1 (y := nI ((60 * t) + j)) (nI_add _ _) ?_
        refine hg_lald_n (j := ((60 * t) + j)) d_M_read_42 rfl rfl (hX.lt (n := 1) ⟨by decide, by decide⟩ rfl (by omega)) (hX.jn (n := 360) (by decide) rfl (by omega)) ?_
        refine hg_goto (tgt := 49) d_M_read_43 (by decide) ?_
        refine hg_lreturn d_M_read_49 rfl ?_
        refine ⟨?_, I, Lg, rfl, hM0, fun _ _ => rfl, fun _ _ => rfl⟩
        simp only [sp_read, ita, iw]; exact hPt.2.2 j (by omega)
      · have iw : hs_ix (gP G t).2.1 i = none := hs_ix_n hw0
        refine hg_if_eq (tgt := 46) d_M_read_29 (by decide) (fun h_5 => ?_) (fun h_5 => absurd (by decide) h_5)
        refine hg_ldc2 d_M_read_46 c_M_288 ?_
        refine hg_lreturn d_M_read_49 rfl ?_
        refine ⟨?_, I, Lg, rfl, hM0, fun _ _ => rfl, fun _ _ => rfl⟩
        simp [sp_read, ita, iw]
  · have ita : hs_ix 6 x = none := hs_ix_n2 (b := 5) hta
    refine hg_if_eq (tgt := 46) d_M_read_4 (by decide) (fun h_6 => ?_) (fun h_6 => absurd (by decide) h_6)
    refine hg_ldc2 d_M_read_46 c_M_288 ?_
    refine hg_lreturn d_M_read_49 rfl ?_
    refine ⟨?_, I, Lg, rfl, hM0, fun _ _ => rfl, fun _ _ => rfl⟩
    simp [sp_read, ita]

end M45
