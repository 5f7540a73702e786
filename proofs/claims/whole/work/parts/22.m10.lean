/-! HangmanDinner: counts, traces, tapes, plans, books, fractions -/
def hs_up (K : Nat) : List Nat := match K with
  | 0 => [0] | 1 => [1, 0] | 2 => [2, 0] | 3 => [3, 0] | 4 => [4, 1, 0] | 5 => [5, 2, 0] | _ => [6, 3, 0]
def sp_trace (st : tk_S) (x : Int32) : Int32 := match hs_ix (min st.1 20) x with
  | none => -1
  | some j => st.2 j
def sp_taken (σ : hs_S) (x k : Int32) : Int32 := match hs_ix 7 k with
  | none => -2
  | some k => match hs_ix (hs_n σ) x with
    | none => -11
    | some h => if (hs_up (hs_hv σ h 0).toNatClampNeg).contains k = true then hs_hv σ h 0 else -12
def sp_count (n T : Nat) (a0 a2 a4 : hs_L) (tx : Nat) (st : tk_S) (w : Int32) : Int32 := match hs_ix 7 w with
  | none => -2
  | some j => nI (([n, T, a0.1, a2.1, a4.1, tx, st.1] : List Nat).getD j 0)
def sp_read (P : Nat → hs_P) (x i : Int32) : Int64 := match hs_ix 6 x with
  | none => -9223372036854775808
  | some t => match hs_ix (P t).2.1 i with
    | none => -9223372036854775808
    | some j => (P t).2.2 j
def sp_judge (σ : hs_S) (P : Nat → hs_P) (x i : Int32) : Int32 := match hs_ix 6 x with
  | none => -1
  | some t => if (P t).1 = 0 ∨ (P t).1 = -1 then sp_jd σ (P t) i (hs_n σ) 0 else -12
theorem hs_cnt_le (f : Nat → Bool) : ∀ k, hs_cnt f k ≤ k
  | 0 => Nat.le_refl _
  | k + 1 => by have := hs_cnt_le f k; unfold hs_cnt; split <;> omega
theorem hs_sm_le {f : Nat → Nat} {B : Nat} : ∀ k, (∀ h, h < k → f h ≤ B) → hs_sm f k ≤ k * B
  | 0, _ => by simp [hs_sm]
  | k + 1, h => by have := hs_sm_le k (fun q hq => h q (by omega)); have := h k (by omega); unfold hs_sm; rw [Nat.succ_mul]; omega
theorem hs_fr_i {a b q : Nat} (hq : q < 2) : (if nI q = 0 then lN (a / Nat.gcd a b) else lN (b / Nat.gcd a b)) = hs_fr a b q := by
  have : q = 0 ∨ q = 1 := by omega
  rcases this with rfl | rfl
  · rw [if_pos (show nI 0 = 0 from rfl)]; rfl
  · rw [if_neg (show ¬ nI 1 = 0 by decide)]; rfl
theorem hs_min20 {n : Nat} (h : n ≤ 1000) : (if (20 : Int32) < nI n then 20 else nI n) = nI (min n 20) := by
  by_cases z : nI 20 < nI n
  · rw [if_pos (show (20 : Int32) < nI n from z)]; rw [nI_ltI (by decide) (by omega)] at z; rw [Nat.min_eq_right (by omega)]; rfl
  · rw [if_neg (show ¬ (20 : Int32) < nI n from z)]; rw [nI_ltI (by decide) (by omega)] at z; rw [Nat.min_eq_left (by omega)]
theorem hs_lcmp (x y : Int64) : lg_cmp x y = 0 ↔ x = y := by
  unfold lg_cmp
  by_cases h : x > y
  · rw [if_pos h]
    constructor
    · intro q; exact absurd q (by decide)
    · intro q; rw [q] at h; exact absurd h (Int64.lt_irrefl)
  · rw [if_neg h]
    by_cases e : x = y
    · rw [if_pos e]; simp [e]
    · rw [if_neg e]; simp [e]
theorem nI_cn {x : Int32} {k : Nat} (h : x = nI k) (hk : k < 2 ^ 31) : x = nI x.toNatClampNeg := by rw [h, nI_clamp hk]

section M10
variable {l : Launch} {E : hg_E} {d T : Nat}
variable {I : Nat → Nat → Nat → Int32} {Lg : Nat → Nat → Nat → Int64} {Rf : Nat → Nat → Nat → Option (Nat × Nat)} {X : Nat × (Nat → Nat) × (Nat → Nat → Nat)}
variable {tw : hs_W} {σ : hs_S}
variable {I1 I2 : Nat → Nat → Nat → Int32} {Rf1 Rf2 : Nat → Nat → Nat → Option (Nat × Nat)}
theorem hs_LR.sc {r : Nat} {a : hs_L} (h : hs_LR r a I) (e : hg_sc I1 I) : hs_LR r a I1 := by
  unfold hs_LR at h ⊢
  rw [e 7 r (by unfold hg_tch; omega), e 8 r (by unfold hg_tch; omega), e 9 r (by unfold hg_tch; omega)]
  exact h
theorem m_D_count {w : Int32} {a0 a2 a4 : hs_L} {tx : Nat} {ts : tk_S} (hE : hq_E T tw σ I Rf X) (hT : I 0 0 11 = nI T) (h0 : hs_LR 0 a0 I) (h2 : hs_LR 2 a2 I) (h4 : hs_LR 4 a4 I) (hx : I 10 0 1 = nI tx) (hK : tk_C ts I) : hg_MC l E (d + 1) Y_D_count 0 0 [.ref (hg_ad E 0 0), .int w] (I, Lg, Rf, X) (hg_i (fun v M' => v = sp_count (hs_n σ) T a0 a2 a4 tx ts w ∧ M' = (I, Lg, Rf, X))) := by
  obtain ⟨hX, hR, hC, hO, hW⟩ := id hE
  have hn6 := hO.1
  refine hg_mc k_D_count (Nat.le_of_ble_eq_true rfl) ?_
  show hg_WP l E _ Y_D_count 0 0 0 [some (.ref (hg_ad E 0 0)), some (.int w)] [] (I, Lg, Rf, X) _
  refine hg_iload1 d_D_count_0 ?_
  rcases hg_sw7 w with hsw | ⟨j, hj, rfl⟩
  · refine hg_tabO (tgt := 97) d_D_count_1 (hsw) (by decide) ?_
    refine hg_bipush (v := (-2)) d_D_count_97 (by decide) ?_
    refine hg_ireturn d_D_count_99 rfl rfl ?_
    refine ⟨?_, rfl⟩
    unfold sp_count; rw [hs_ix_n2 (b := 6) (fun ⟨j, hj, e⟩ => by rw [e, nI_toInt (by omega)] at hsw; omega)]
  · have h11 : j = 0 ∨ j = 1 ∨ j = 2 ∨ j = 3 ∨ j = 4 ∨ j = 5 ∨ j = 6 := by omega
    rcases h11 with rfl | rfl | rfl | rfl | rfl | rfl | rfl
    · refine hg_tabI (off := 43) (tgt := 44) d_D_count_1 (by decide) (by decide) rfl (by decide) ?_
      refine hg_aload0 d_D_count_44 ?_
      refine hg_getR d_D_count_45 f_D_69 rfl rfl (hX.lt (n := 1) ⟨by decide, by decide⟩ rfl (by omega)) (hR.D (j := 0) (q := (1, 0)) rfl) ?_
      refine hg_getI d_D_count_48 f_D_185 rfl rfl (hX.lt (n := 3) ⟨by decide, by decide⟩ rfl (by omega)) ?_
      refine hg_eq1 (y := nI (hs_n σ)) (hC.1) ?_
      refine hg_ireturn d_D_count_51 rfl rfl ?_
      refine ⟨?_, rfl⟩
      unfold sp_count; rw [hs_ix_s (by decide) (by decide)]; rfl
    · refine hg_tabI (off := 51) (tgt := 52) d_D_count_1 (by decide) (by decide) rfl (by decide) ?_
      refine hg_aload0 d_D_count_52 ?_
      refine hg_getI d_D_count_53 f_D_143 rfl rfl (hX.lt (n := 1) ⟨by decide, by decide⟩ rfl (by omega)) ?_
      refine hg_eq1 (y := nI T) (hT) ?_
      refine hg_ireturn d_D_count_56 rfl rfl ?_
      refine ⟨?_, rfl⟩
      unfold sp_count; rw [hs_ix_s (by decide) (by decide)]; rfl
    · refine hg_tabI (off := 56) (tgt := 57) d_D_count_1 (by decide) (by decide) rfl (by decide) ?_
      refine hg_aload0 d_D_count_57 ?_
      refine hg_getR d_D_count_58 f_D_16 rfl rfl (hX.lt (n := 1) ⟨by decide, by decide⟩ rfl (by omega)) (hR.D (j := 3) (q := (7, 0)) rfl) ?_
      refine hg_getI d_D_count_61 f_D_221 rfl rfl (hX.lt (n := 6) ⟨by decide, by decide⟩ rfl (by omega)) ?_
      refine hg_eq1 (y := nI a0.1) (h0.1) ?_
      refine hg_ireturn d_D_count_64 rfl rfl ?_
      refine ⟨?_, rfl⟩
      unfold sp_count; rw [hs_ix_s (by decide) (by decide)]; rfl
    · refine hg_tabI (off := 64) (tgt := 65) d_D_count_1 (by decide) (by decide) rfl (by decide) ?_
      refine hg_aload0 d_D_count_65 ?_
      refine hg_getR d_D_count_66 f_D_23 rfl rfl (hX.lt (n := 1) ⟨by decide, by decide⟩ rfl (by omega)) (hR.D (j := 5) (q := (7, 2)) rfl) ?_
      refine hg_getI d_D_count_69 f_D_221 rfl rfl (hX.lt (n := 6) ⟨by decide, by decide⟩ rfl (by omega)) ?_
      refine hg_eq1 (y := nI a2.1) (h2.1) ?_
      refine hg_ireturn d_D_count_72 rfl rfl ?_
      refine ⟨?_, rfl⟩
      unfold sp_count; rw [hs_ix_s (by decide) (by decide)]; rfl
    · refine hg_tabI (off := 72) (tgt := 73) d_D_count_1 (by decide) (by decide) rfl (by decide) ?_
      refine hg_aload0 d_D_count_73 ?_
      refine hg_getR d_D_count_74 f_D_29 rfl rfl (hX.lt (n := 1) ⟨by decide, by decide⟩ rfl (by omega)) (hR.D (j := 7) (q := (7, 4)) rfl) ?_
      refine hg_getI d_D_count_77 f_D_221 rfl rfl (hX.lt (n := 6) ⟨by decide, by decide⟩ rfl (by omega)) ?_
      refine hg_eq1 (y := nI a4.1) (h4.1) ?_
      refine hg_ireturn d_D_count_80 rfl rfl ?_
      refine ⟨?_, rfl⟩
      unfold sp_count; rw [hs_ix_s (by decide) (by decide)]; rfl
    · refine hg_tabI (off := 80) (tgt := 81) d_D_count_1 (by decide) (by decide) rfl (by decide) ?_
      refine hg_aload0 d_D_count_81 ?_
      refine hg_getR d_D_count_82 f_D_38 rfl rfl (hX.lt (n := 1) ⟨by decide, by decide⟩ rfl (by omega)) (hR.D (j := 10) (q := (10, 0)) rfl) ?_
      refine hg_getI d_D_count_85 f_D_279 rfl rfl (hX.lt (n := 1) ⟨by decide, by decide⟩ rfl (by omega)) ?_
      refine hg_eq1 (y := nI tx) (hx) ?_
      refine hg_ireturn d_D_count_88 rfl rfl ?_
      refine ⟨?_, rfl⟩
      unfold sp_count; rw [hs_ix_s (by decide) (by decide)]; rfl
    · refine hg_tabI (off := 88) (tgt := 89) d_D_count_1 (by decide) (by decide) rfl (by decide) ?_
      refine hg_aload0 d_D_count_89 ?_
      refine hg_getR d_D_count_90 f_D_45 rfl rfl (hX.lt (n := 1) ⟨by decide, by decide⟩ rfl (by omega)) (hR.D (j := 12) (q := (13, 0)) rfl) ?_
      refine hg_getI d_D_count_93 f_D_280 rfl rfl (hX.lt (n := 1) ⟨by decide, by decide⟩ rfl (by omega)) ?_
      refine hg_eq1 (y := nI ts.1) (hK.1) ?_
      refine hg_ireturn d_D_count_96 rfl rfl ?_
      refine ⟨?_, rfl⟩
      unfold sp_count; rw [hs_ix_s (by decide) (by decide)]; rfl

theorem m_T_kept {ts : tk_S} (hX : hg_XS T X) (hK : tk_C ts I) (hs : ts.1 ≤ 1000) : hg_MC l E (d + 1) Y_T_kept 0 0 [.ref (hg_ad E 13 0)] (I, Lg, Rf, X) (hg_i (fun v M' => v = nI (min ts.1 20) ∧ M' = (I, Lg, Rf, X))) := by
  refine hg_mc k_T_kept (Nat.le_of_ble_eq_true rfl) ?_
  show hg_WP l E _ Y_T_kept 0 0 0 [some (.ref (hg_ad E 13 0))] [] (I, Lg, Rf, X) _
  refine hg_aload0 d_T_kept_0 ?_
  refine hg_getI d_T_kept_1 f_T_16 rfl rfl (hX.lt (n := 1) ⟨by decide, by decide⟩ rfl (by omega)) ?_
  refine hg_eq1 (y := nI ts.1) (hK.1) ?_
  refine hg_bipush (v := 20) d_T_kept_4 (by decide) ?_
  refine hg_min d_T_kept_6 l_T_20 (Nat.le_of_ble_eq_true rfl) ?_
  refine hg_eq1 (y := nI (min ts.1 20)) (hs_min20 hs) ?_
  refine hg_ireturn d_T_kept_9 rfl rfl ?_
  exact ⟨rfl, rfl⟩

theorem m_D_trace {x : Int32} {ts : tk_S} (hX : hg_XS T X) (hR : hg_SR T Rf) (hK : tk_C ts I) (hs : ts.1 ≤ 1000) : hg_MC l E (d + 2) Y_D_trace 0 0 [.ref (hg_ad E 0 0), .int x] (I, Lg, Rf, X) (hg_i (fun v M' => v = sp_trace ts x ∧ M' = (I, Lg, Rf, X))) := by
  refine hg_mc k_D_trace (Nat.le_of_ble_eq_true rfl) ?_
  show hg_WP l E _ Y_D_trace 0 0 0 [some (.ref (hg_ad E 0 0)), some (.int x)] [] (I, Lg, Rf, X) _
  refine hg_iload1 d_D_trace_0 ?_
  refine hg_if_lt (tgt := 27) d_D_trace_1 (by decide) (fun h1 => ?_) (fun h1 => ?_)
  · refine hg_iconst (v := (-1)) d_D_trace_27 (by decide) ?_
    refine hg_ireturn d_D_trace_28 rfl rfl ?_
    refine ⟨?_, rfl⟩
    unfold sp_trace; rw [hs_ix_n (hg_notin (by omega) (by first | exact Or.inl h1 | exact Or.inr h2))]
  · refine hg_iload1 d_D_trace_4 ?_
    refine hg_aload0 d_D_trace_5 ?_
    refine hg_getR d_D_trace_6 f_D_45 rfl rfl (hX.lt (n := 1) ⟨by decide, by decide⟩ rfl (by omega)) (hR.D (j := 12) (q := (13, 0)) rfl) ?_
    refine hg_cVi d_D_trace_9 l_D_270 rfl rfl (hX.lt (n := 1) ⟨by decide, by decide⟩ rfl (by omega)) rfl (Nat.le_of_ble_eq_true rfl) (m_T_kept hX hK hs) rfl ?_
    rintro _ _ ⟨rfl, rfl⟩
    refine hg_icmp_ge (tgt := 27) d_D_trace_12 (by decide) (fun h2 => ?_) (fun h2 => ?_)
    · refine hg_iconst (v := (-1)) d_D_trace_27 (by decide) ?_
      refine hg_ireturn d_D_trace_28 rfl rfl ?_
      refine ⟨?_, rfl⟩
      unfold sp_trace; rw [hs_ix_n (hg_notin (by omega) (by first | exact Or.inl h1 | exact Or.inr h2))]
    · obtain ⟨j, hj, rfl⟩ := hg_isin (n := min ts.1 20) (by omega) h1 h2
      refine hg_aload0 d_D_trace_15 ?_
      refine hg_getR d_D_trace_16 f_D_45 rfl rfl (hX.lt (n := 1) ⟨by decide, by decide⟩ rfl (by omega)) (hR.D (j := 12) (q := (13, 0)) rfl) ?_
      refine hg_getR d_D_trace_19 f_D_273 rfl rfl (hX.lt (n := 1) ⟨by decide, by decide⟩ rfl (by omega)) hR.t0 ?_
      refine hg_iload1 d_D_trace_22 ?_
      refine hg_iald_n (j := j) d_D_trace_23 rfl rfl (hX.lt (n := 1) ⟨by decide, by decide⟩ rfl (by omega)) (hX.jn (n := 20) (by decide) rfl (by omega)) ?_
      refine hg_eq1 (y := ts.2 j) (hK.2 j (by omega)) ?_
      refine hg_goto (tgt := 28) d_D_trace_24 (by decide) ?_
      refine hg_ireturn d_D_trace_28 rfl rfl ?_
      refine ⟨?_, rfl⟩
      unfold sp_trace; rw [hs_ix_s (by omega) (by omega)]

theorem m_T_isUnder {K k : Nat} (hK : K ≤ 6) (hk : k ≤ 6) : hg_MC l E (d + 1) Y_T_isUnder 0 0 [.int (nI K), .int (nI k)] (I, Lg, Rf, X) (hg_i (fun v M' => v = (if (hs_up K).contains k = true then 1 else 0) ∧ M' = (I, Lg, Rf, X))) := by
  refine hg_mc k_T_isUnder (Nat.le_of_ble_eq_true rfl) ?_
  show hg_WP l E _ Y_T_isUnder 0 0 0 [some (.int (nI K)), some (.int (nI k)), none, none] [] (I, Lg, Rf, X) _
  have h7 : K = 0 ∨ K = 1 ∨ K = 2 ∨ K = 3 ∨ K = 4 ∨ K = 5 ∨ K = 6 := by omega
  rcases h7 with rfl | rfl | rfl | rfl | rfl | rfl | rfl
  · show hg_WP l E _ Y_T_isUnder 0 0 0 [some (.int 0), some (.int (nI k)), none, none] [] (I, Lg, Rf, X) _
    refine hg_iload0 d_T_isUnder_0 ?_
    refine hg_istore2 d_T_isUnder_1 rfl ?_
    refine hg_iconst (v := 0) d_T_isUnder_2 (by decide) ?_
    refine hg_istore3 d_T_isUnder_3 rfl ?_
    refine hg_iload3 d_T_isUnder_4 ?_
    refine hg_iconst (v := 3) d_T_isUnder_5 (by decide) ?_
    refine hg_icmp_ge (tgt := 32) d_T_isUnder_6 (by decide) (fun h_1 => absurd h_1 (by decide)) (fun h_1 => ?_)
    refine hg_iload2 d_T_isUnder_9 ?_
    refine hg_if_lt (tgt := 32) d_T_isUnder_10 (by decide) (fun h_2 => absurd h_2 (by decide)) (fun h_2 => ?_)
    refine hg_iload2 d_T_isUnder_13 ?_
    refine hg_iload1 d_T_isUnder_14 ?_
    refine hg_icmp_ne (tgt := 20) d_T_isUnder_15 (by decide) (fun hq0 => ?_) (fun hq0 => ?_)
    · refine hg_gets d_T_isUnder_20 s_T_13 (fun s h => hx_aboveZ h) ?_
      refine hg_iload2 d_T_isUnder_23 ?_
      refine hg_ialdT_n (j := 0) d_T_isUnder_24 (fun s h => hx_aboveT h) (by omega) (by decide) ?_
      refine hg_eq1 (y := -1) (by decide) ?_
      refine hg_istore2 d_T_isUnder_25 rfl ?_
      refine hg_iinc3 (v := 1) d_T_isUnder_26 rfl (by decide) ?_
      refine hg_goto (tgt := 4) d_T_isUnder_29 (by decide) ?_
      refine hg_iload3 d_T_isUnder_4 ?_
      refine hg_iconst (v := 3) d_T_isUnder_5 (by decide) ?_
      refine hg_icmp_ge (tgt := 32) d_T_isUnder_6 (by decide) (fun h_3 => absurd h_3 (by decide)) (fun h_3 => ?_)
      refine hg_iload2 d_T_isUnder_9 ?_
      refine hg_if_lt (tgt := 32) d_T_isUnder_10 (by decide) (fun h_4 => ?_) (fun h_4 => absurd (by decide) h_4)
      refine hg_iconst (v := 0) d_T_isUnder_32 (by decide) ?_
      refine hg_ireturn d_T_isUnder_33 rfl (by decide) ?_
      refine ⟨?_, rfl⟩
      have h7 : k = 0 ∨ k = 1 ∨ k = 2 ∨ k = 3 ∨ k = 4 ∨ k = 5 ∨ k = 6 := by omega
      rcases h7 with rfl | rfl | rfl | rfl | rfl | rfl | rfl <;> first | rfl | exact absurd hq0 (by decide) | exact absurd hq1 (by decide) | exact absurd hq2 (by decide)
    · replace hq0 := Decidable.not_not.mp hq0
      refine hg_iconst (v := 1) d_T_isUnder_18 (by decide) ?_
      refine hg_ireturn d_T_isUnder_19 rfl (by decide) ?_
      refine ⟨?_, rfl⟩
      have h7 : k = 0 ∨ k = 1 ∨ k = 2 ∨ k = 3 ∨ k = 4 ∨ k = 5 ∨ k = 6 := by omega
      rcases h7 with rfl | rfl | rfl | rfl | rfl | rfl | rfl <;> first | rfl | exact absurd hq0 (by decide) | exact absurd hq1 (by decide) | exact absurd hq2 (by decide)
  · show hg_WP l E _ Y_T_isUnder 0 0 0 [some (.int 1), some (.int (nI k)), none, none] [] (I, Lg, Rf, X) _
    refine hg_iload0 d_T_isUnder_0 ?_
    refine hg_istore2 d_T_isUnder_1 rfl ?_
    refine hg_iconst (v := 0) d_T_isUnder_2 (by decide) ?_
    refine hg_istore3 d_T_isUnder_3 rfl ?_
    refine hg_iload3 d_T_isUnder_4 ?_
    refine hg_iconst (v := 3) d_T_isUnder_5 (by decide) ?_
    refine hg_icmp_ge (tgt := 32) d_T_isUnder_6 (by decide) (fun h_5 => absurd h_5 (by decide)) (fun h_5 => ?_)
    refine hg_iload2 d_T_isUnder_9 ?_
    refine hg_if_lt (tgt := 32) d_T_isUnder_10 (by decide) (fun h_6 => absurd h_6 (by decide)) (fun h_6 => ?_)
    refine hg_iload2 d_T_isUnder_13 ?_
    refine hg_iload1 d_T_isUnder_14 ?_
    refine hg_icmp_ne (tgt := 20) d_T_isUnder_15 (by decide) (fun hq0 => ?_) (fun hq0 => ?_)
    · refine hg_gets d_T_isUnder_20 s_T_13 (fun s h => hx_aboveZ h) ?_
      refine hg_iload2 d_T_isUnder_23 ?_
      refine hg_ialdT_n (j := 1) d_T_isUnder_24 (fun s h => hx_aboveT h) (by omega) (by decide) ?_
      refine hg_eq1 (y := 0) (by decide) ?_
      refine hg_istore2 d_T_isUnder_25 rfl ?_
      refine hg_iinc3 (v := 1) d_T_isUnder_26 rfl (by decide) ?_
      refine hg_goto (tgt := 4) d_T_isUnder_29 (by decide) ?_
      refine hg_iload3 d_T_isUnder_4 ?_
      refine hg_iconst (v := 3) d_T_isUnder_5 (by decide) ?_
      refine hg_icmp_ge (tgt := 32) d_T_isUnder_6 (by decide) (fun h_7 => absurd h_7 (by decide)) (fun h_7 => ?_)
      refine hg_iload2 d_T_isUnder_9 ?_
      refine hg_if_lt (tgt := 32) d_T_isUnder_10 (by decide) (fun h_8 => absurd h_8 (by decide)) (fun h_8 => ?_)
      refine hg_iload2 d_T_isUnder_13 ?_
      refine hg_iload1 d_T_isUnder_14 ?_
      refine hg_icmp_ne (tgt := 20) d_T_isUnder_15 (by decide) (fun hq1 => ?_) (fun hq1 => ?_)
      · refine hg_gets d_T_isUnder_20 s_T_13 (fun s h => hx_aboveZ h) ?_
        refine hg_iload2 d_T_isUnder_23 ?_
        refine hg_ialdT_n (j := 0) d_T_isUnder_24 (fun s h => hx_aboveT h) (by omega) (by decide) ?_
        refine hg_eq1 (y := -1) (by decide) ?_
        refine hg_istore2 d_T_isUnder_25 rfl ?_
        refine hg_iinc3 (v := 2) d_T_isUnder_26 rfl (by decide) ?_
        refine hg_goto (tgt := 4) d_T_isUnder_29 (by decide) ?_
        refine hg_iload3 d_T_isUnder_4 ?_
        refine hg_iconst (v := 3) d_T_isUnder_5 (by decide) ?_
        refine hg_icmp_ge (tgt := 32) d_T_isUnder_6 (by decide) (fun h_9 => absurd h_9 (by decide)) (fun h_9 => ?_)
        refine hg_iload2 d_T_isUnder_9 ?_
        refine hg_if_lt (tgt := 32) d_T_isUnder_10 (by decide) (fun h_10 => ?_) (fun h_10 => absurd (by decide) h_10)
        refine hg_iconst (v := 0) d_T_isUnder_32 (by decide) ?_
        refine hg_ireturn d_T_isUnder_33 rfl (by decide) ?_
        refine ⟨?_, rfl⟩
        have h7 : k = 0 ∨ k = 1 ∨ k = 2 ∨ k = 3 ∨ k = 4 ∨ k = 5 ∨ k = 6 := by omega
        rcases h7 with rfl | rfl | rfl | rfl | rfl | rfl | rfl <;> first | rfl | exact absurd hq0 (by decide) | exact absurd hq1 (by decide) | exact absurd hq2 (by decide)
      · replace hq1 := Decidable.not_not.mp hq1
        refine hg_iconst (v := 1) d_T_isUnder_18 (by decide) ?_
        refine hg_ireturn d_T_isUnder_19 rfl (by decide) ?_
        refine ⟨?_, rfl⟩
        have h7 : k = 0 ∨ k = 1 ∨ k = 2 ∨ k = 3 ∨ k = 4 ∨ k = 5 ∨ k = 6 := by omega
        rcases h7 with rfl | rfl | rfl | rfl | rfl | rfl | rfl <;> first | rfl | exact absurd hq0 (by decide) | exact absurd hq1 (by decide) | exact absurd hq2 (by decide)
    · replace hq0 := Decidable.not_not.mp hq0
      refine hg_iconst (v := 1) d_T_isUnder_18 (by decide) ?_
      refine hg_ireturn d_T_isUnder_19 rfl (by decide) ?_
      refine ⟨?_, rfl⟩
      have h7 : k = 0 ∨ k = 1 ∨ k = 2 ∨ k = 3 ∨ k = 4 ∨ k = 5 ∨ k = 6 := by omega
      rcases h7 with rfl | rfl | rfl | rfl | rfl | rfl | rfl <;> first | rfl | exact absurd hq0 (by decide) | exact absurd hq1 (by decide) | exact absurd hq2 (by decide)
  · show hg_WP l E _ Y_T_isUnder 0 0 0 [some (.int 2), some (.int (nI k)), none, none] [] (I, Lg, Rf, X) _
    refine hg_iload0 d_T_isUnder_0 ?_
    refine hg_istore2 d_T_isUnder_1 rfl ?_
    refine hg_iconst (v := 0) d_T_isUnder_2 (by decide) ?_
    refine hg_istore3 d_T_isUnder_3 rfl ?_
    refine hg_iload3 d_T_isUnder_4 ?_
    refine hg_iconst (v := 3) d_T_isUnder_5 (by decide) ?_
    refine hg_icmp_ge (tgt := 32) d_T_isUnder_6 (by decide) (fun h_11 => absurd h_11 (by decide)) (fun h_11 => ?_)
    refine hg_iload2 d_T_isUnder_9 ?_
    refine hg_if_lt (tgt := 32) d_T_isUnder_10 (by decide) (fun h_12 => absurd h_12 (by decide)) (fun h_12 => ?_)
    refine hg_iload2 d_T_isUnder_13 ?_
    refine hg_iload1 d_T_isUnder_14 ?_
    refine hg_icmp_ne (tgt := 20) d_T_isUnder_15 (by decide) (fun hq0 => ?_) (fun hq0 => ?_)
    · refine hg_gets d_T_isUnder_20 s_T_13 (fun s h => hx_aboveZ h) ?_
      refine hg_iload2 d_T_isUnder_23 ?_
      refine hg_ialdT_n (j := 2) d_T_isUnder_24 (fun s h => hx_aboveT h) (by omega) (by decide) ?_
      refine hg_eq1 (y := 0) (by decide) ?_
      refine hg_istore2 d_T_isUnder_25 rfl ?_
      refine hg_iinc3 (v := 1) d_T_isUnder_26 rfl (by decide) ?_
      refine hg_goto (tgt := 4) d_T_isUnder_29 (by decide) ?_
      refine hg_iload3 d_T_isUnder_4 ?_
      refine hg_iconst (v := 3) d_T_isUnder_5 (by decide) ?_
      refine hg_icmp_ge (tgt := 32) d_T_isUnder_6 (by decide) (fun h_13 => absurd h_13 (by decide)) (fun h_13 => ?_)
      refine hg_iload2 d_T_isUnder_9 ?_
      refine hg_if_lt (tgt := 32) d_T_isUnder_10 (by decide) (fun h_14 => absurd h_14 (by decide)) (fun h_14 => ?_)
      refine hg_iload2 d_T_isUnder_13 ?_
      refine hg_iload1 d_T_isUnder_14 ?_
      refine hg_icmp_ne (tgt := 20) d_T_isUnder_15 (by decide) (fun hq1 => ?_) (fun hq1 => ?_)
      · refine hg_gets d_T_isUnder_20 s_T_13 (fun s h => hx_aboveZ h) ?_
        refine hg_iload2 d_T_isUnder_23 ?_
        refine hg_ialdT_n (j := 0) d_T_isUnder_24 (fun s h => hx_aboveT h) (by omega) (by decide) ?_
        refine hg_eq1 (y := -1) (by decide) ?_
        refine hg_istore2 d_T_isUnder_25 rfl ?_
        refine hg_iinc3 (v := 2) d_T_isUnder_26 rfl (by decide) ?_
        refine hg_goto (tgt := 4) d_T_isUnder_29 (by decide) ?_
        refine hg_iload3 d_T_isUnder_4 ?_
        refine hg_iconst (v := 3) d_T_isUnder_5 (by decide) ?_
        refine hg_icmp_ge (tgt := 32) d_T_isUnder_6 (by decide) (fun h_15 => absurd h_15 (by decide)) (fun h_15 => ?_)
        refine hg_iload2 d_T_isUnder_9 ?_
        refine hg_if_lt (tgt := 32) d_T_isUnder_10 (by decide) (fun h_16 => ?_) (fun h_16 => absurd (by decide) h_16)
        refine hg_iconst (v := 0) d_T_isUnder_32 (by decide) ?_
        refine hg_ireturn d_T_isUnder_33 rfl (by decide) ?_
        refine ⟨?_, rfl⟩
        have h7 : k = 0 ∨ k = 1 ∨ k = 2 ∨ k = 3 ∨ k = 4 ∨ k = 5 ∨ k = 6 := by omega
        rcases h7 with rfl | rfl | rfl | rfl | rfl | rfl | rfl <;> first | rfl | exact absurd hq0 (by decide) | exact absurd hq1 (by decide) | exact absurd hq2 (by decide)
      · replace hq1 := Decidable.not_not.mp hq1
        refine hg_iconst (v := 1) d_T_isUnder_18 (by decide) ?_
        refine hg_ireturn d_T_isUnder_19 rfl (by decide) ?_
        refine ⟨?_, rfl⟩
        have h7 : k = 0 ∨ k = 1 ∨ k = 2 ∨ k = 3 ∨ k = 4 ∨ k = 5 ∨ k = 6 := by omega
        rcases h7 with rfl | rfl | rfl | rfl | rfl | rfl | rfl <;> first | rfl | exact absurd hq0 (by decide) | exact absurd hq1 (by decide) | exact absurd hq2 (by decide)
    · replace hq0 := Decidable.not_not.mp hq0
      refine hg_iconst (v := 1) d_T_isUnder_18 (by decide) ?_
      refine hg_ireturn d_T_isUnder_19 rfl (by decide) ?_
      refine ⟨?_, rfl⟩
      have h7 : k = 0 ∨ k = 1 ∨ k = 2 ∨ k = 3 ∨ k = 4 ∨ k = 5 ∨ k = 6 := by omega
      rcases h7 with rfl | rfl | rfl | rfl | rfl | rfl | rfl <;> first | rfl | exact absurd hq0 (by decide) | exact absurd hq1 (by decide) | exact absurd hq2 (by decide)
  · show hg_WP l E _ Y_T_isUnder 0 0 0 [some (.int 3), some (.int (nI k)), none, none] [] (I, Lg, Rf, X) _
    refine hg_iload0 d_T_isUnder_0 ?_
    refine hg_istore2 d_T_isUnder_1 rfl ?_
    refine hg_iconst (v := 0) d_T_isUnder_2 (by decide) ?_
    refine hg_istore3 d_T_isUnder_3 rfl ?_
    refine hg_iload3 d_T_isUnder_4 ?_
    refine hg_iconst (v := 3) d_T_isUnder_5 (by decide) ?_
    refine hg_icmp_ge (tgt := 32) d_T_isUnder_6 (by decide) (fun h_17 => absurd h_17 (by decide)) (fun h_17 => ?_)
    refine hg_iload2 d_T_isUnder_9 ?_
    refine hg_if_lt (tgt := 32) d_T_isUnder_10 (by decide) (fun h_18 => absurd h_18 (by decide)) (fun h_18 => ?_)
    refine hg_iload2 d_T_isUnder_13 ?_
    refine hg_iload1 d_T_isUnder_14 ?_
    refine hg_icmp_ne (tgt := 20) d_T_isUnder_15 (by decide) (fun hq0 => ?_) (fun hq0 => ?_)
    · refine hg_gets d_T_isUnder_20 s_T_13 (fun s h => hx_aboveZ h) ?_
      refine hg_iload2 d_T_isUnder_23 ?_
      refine hg_ialdT_n (j := 3) d_T_isUnder_24 (fun s h => hx_aboveT h) (by omega) (by decide) ?_
      refine hg_eq1 (y := 0) (by decide) ?_
      refine hg_istore2 d_T_isUnder_25 rfl ?_
      refine hg_iinc3 (v := 1) d_T_isUnder_26 rfl (by decide) ?_
      refine hg_goto (tgt := 4) d_T_isUnder_29 (by decide) ?_
      refine hg_iload3 d_T_isUnder_4 ?_
      refine hg_iconst (v := 3) d_T_isUnder_5 (by decide) ?_
      refine hg_icmp_ge (tgt := 32) d_T_isUnder_6 (by decide) (fun h_19 => absurd h_19 (by decide)) (fun h_19 => ?_)
      refine hg_iload2 d_T_isUnder_9 ?_
      refine hg_if_lt (tgt := 32) d_T_isUnder_10 (by decide) (fun h_20 => absurd h_20 (by decide)) (fun h_20 => ?_)
      refine hg_iload2 d_T_isUnder_13 ?_
      refine hg_iload1 d_T_isUnder_14 ?_
      refine hg_icmp_ne (tgt := 20) d_T_isUnder_15 (by decide) (fun hq1 => ?_) (fun hq1 => ?_)
      · refine hg_gets d_T_isUnder_20 s_T_13 (fun s h => hx_aboveZ h) ?_
        refine hg_iload2 d_T_isUnder_23 ?_
        refine hg_ialdT_n (j := 0) d_T_isUnder_24 (fun s h => hx_aboveT h) (by omega) (by decide) ?_
        refine hg_eq1 (y := -1) (by decide) ?_
        refine hg_istore2 d_T_isUnder_25 rfl ?_
        refine hg_iinc3 (v := 2) d_T_isUnder_26 rfl (by decide) ?_
        refine hg_goto (tgt := 4) d_T_isUnder_29 (by decide) ?_
        refine hg_iload3 d_T_isUnder_4 ?_
        refine hg_iconst (v := 3) d_T_isUnder_5 (by decide) ?_
        refine hg_icmp_ge (tgt := 32) d_T_isUnder_6 (by decide) (fun h_21 => absurd h_21 (by decide)) (fun h_21 => ?_)
        refine hg_iload2 d_T_isUnder_9 ?_
        refine hg_if_lt (tgt := 32) d_T_isUnder_10 (by decide) (fun h_22 => ?_) (fun h_22 => absurd (by decide) h_22)
        refine hg_iconst (v := 0) d_T_isUnder_32 (by decide) ?_
        refine hg_ireturn d_T_isUnder_33 rfl (by decide) ?_
        refine ⟨?_, rfl⟩
        have h7 : k = 0 ∨ k = 1 ∨ k = 2 ∨ k = 3 ∨ k = 4 ∨ k = 5 ∨ k = 6 := by omega
        rcases h7 with rfl | rfl | rfl | rfl | rfl | rfl | rfl <;> first | rfl | exact absurd hq0 (by decide) | exact absurd hq1 (by decide) | exact absurd hq2 (by decide)
      · replace hq1 := Decidable.not_not.mp hq1
        refine hg_iconst (v := 1) d_T_isUnder_18 (by decide) ?_
        refine hg_ireturn d_T_isUnder_19 rfl (by decide) ?_
        refine ⟨?_, rfl⟩
        have h7 : k = 0 ∨ k = 1 ∨ k = 2 ∨ k = 3 ∨ k = 4 ∨ k = 5 ∨ k = 6 := by omega
        rcases h7 with rfl | rfl | rfl | rfl | rfl | rfl | rfl <;> first | rfl | exact absurd hq0 (by decide) | exact absurd hq1 (by decide) | exact absurd hq2 (by decide)
    · replace hq0 := Decidable.not_not.mp hq0
      refine hg_iconst (v := 1) d_T_isUnder_18 (by decide) ?_
      refine hg_ireturn d_T_isUnder_19 rfl (by decide) ?_
      refine ⟨?_, rfl⟩
      have h7 : k = 0 ∨ k = 1 ∨ k = 2 ∨ k = 3 ∨ k = 4 ∨ k = 5 ∨ k = 6 := by omega
      rcases h7 with rfl | rfl | rfl | rfl | rfl | rfl | rfl <;> first | rfl | exact absurd hq0 (by decide) | exact absurd hq1 (by decide) | exact absurd hq2 (by decide)
  · show hg_WP l E _ Y_T_isUnder 0 0 0 [some (.int 4), some (.int (nI k)), none, none] [] (I, Lg, Rf, X) _
    refine hg_iload0 d_T_isUnder_0 ?_
    refine hg_istore2 d_T_isUnder_1 rfl ?_
    refine hg_iconst (v := 0) d_T_isUnder_2 (by decide) ?_
    refine hg_istore3 d_T_isUnder_3 rfl ?_
    refine hg_iload3 d_T_isUnder_4 ?_
    refine hg_iconst (v := 3) d_T_isUnder_5 (by decide) ?_
    refine hg_icmp_ge (tgt := 32) d_T_isUnder_6 (by decide) (fun h_23 => absurd h_23 (by decide)) (fun h_23 => ?_)
    refine hg_iload2 d_T_isUnder_9 ?_
    refine hg_if_lt (tgt := 32) d_T_isUnder_10 (by decide) (fun h_24 => absurd h_24 (by decide)) (fun h_24 => ?_)
    refine hg_iload2 d_T_isUnder_13 ?_
    refine hg_iload1 d_T_isUnder_14 ?_
    refine hg_icmp_ne (tgt := 20) d_T_isUnder_15 (by decide) (fun hq0 => ?_) (fun hq0 => ?_)
    · refine hg_gets d_T_isUnder_20 s_T_13 (fun s h => hx_aboveZ h) ?_
      refine hg_iload2 d_T_isUnder_23 ?_
      refine hg_ialdT_n (j := 4) d_T_isUnder_24 (fun s h => hx_aboveT h) (by omega) (by decide) ?_
      refine hg_eq1 (y := 1) (by decide) ?_
      refine hg_istore2 d_T_isUnder_25 rfl ?_
      refine hg_iinc3 (v := 1) d_T_isUnder_26 rfl (by decide) ?_
      refine hg_goto (tgt := 4) d_T_isUnder_29 (by decide) ?_
      refine hg_iload3 d_T_isUnder_4 ?_
      refine hg_iconst (v := 3) d_T_isUnder_5 (by decide) ?_
      refine hg_icmp_ge (tgt := 32) d_T_isUnder_6 (by decide) (fun h_25 => absurd h_25 (by decide)) (fun h_25 => ?_)
      refine hg_iload2 d_T_isUnder_9 ?_
      refine hg_if_lt (tgt := 32) d_T_isUnder_10 (by decide) (fun h_26 => absurd h_26 (by decide)) (fun h_26 => ?_)
      refine hg_iload2 d_T_isUnder_13 ?_
      refine hg_iload1 d_T_isUnder_14 ?_
      refine hg_icmp_ne (tgt := 20) d_T_isUnder_15 (by decide) (fun hq1 => ?_) (fun hq1 => ?_)
      · refine hg_gets d_T_isUnder_20 s_T_13 (fun s h => hx_aboveZ h) ?_
        refine hg_iload2 d_T_isUnder_23 ?_
        refine hg_ialdT_n (j := 1) d_T_isUnder_24 (fun s h => hx_aboveT h) (by omega) (by decide) ?_
        refine hg_eq1 (y := 0) (by decide) ?_
        refine hg_istore2 d_T_isUnder_25 rfl ?_
        refine hg_iinc3 (v := 2) d_T_isUnder_26 rfl (by decide) ?_
        refine hg_goto (tgt := 4) d_T_isUnder_29 (by decide) ?_
        refine hg_iload3 d_T_isUnder_4 ?_
        refine hg_iconst (v := 3) d_T_isUnder_5 (by decide) ?_
        refine hg_icmp_ge (tgt := 32) d_T_isUnder_6 (by decide) (fun h_27 => absurd h_27 (by decide)) (fun h_27 => ?_)
        refine hg_iload2 d_T_isUnder_9 ?_
        refine hg_if_lt (tgt := 32) d_T_isUnder_10 (by decide) (fun h_28 => absurd h_28 (by decide)) (fun h_28 => ?_)
        refine hg_iload2 d_T_isUnder_13 ?_
        refine hg_iload1 d_T_isUnder_14 ?_
        refine hg_icmp_ne (tgt := 20) d_T_isUnder_15 (by decide) (fun hq2 => ?_) (fun hq2 => ?_)
        · refine hg_gets d_T_isUnder_20 s_T_13 (fun s h => hx_aboveZ h) ?_
          refine hg_iload2 d_T_isUnder_23 ?_
          refine hg_ialdT_n (j := 0) d_T_isUnder_24 (fun s h => hx_aboveT h) (by omega) (by decide) ?_
          refine hg_eq1 (y := -1) (by decide) ?_
          refine hg_istore2 d_T_isUnder_25 rfl ?_
          refine hg_iinc3 (v := 3) d_T_isUnder_26 rfl (by decide) ?_
          refine hg_goto (tgt := 4) d_T_isUnder_29 (by decide) ?_
          refine hg_iload3 d_T_isUnder_4 ?_
          refine hg_iconst (v := 3) d_T_isUnder_5 (by decide) ?_
          refine hg_icmp_ge (tgt := 32) d_T_isUnder_6 (by decide) (fun h_29 => ?_) (fun h_29 => absurd (by decide) h_29)
          refine hg_iconst (v := 0) d_T_isUnder_32 (by decide) ?_
          refine hg_ireturn d_T_isUnder_33 rfl (by decide) ?_
          refine ⟨?_, rfl⟩
          have h7 : k = 0 ∨ k = 1 ∨ k = 2 ∨ k = 3 ∨ k = 4 ∨ k = 5 ∨ k = 6 := by omega
          rcases h7 with rfl | rfl | rfl | rfl | rfl | rfl | rfl <;> first | rfl | exact absurd hq0 (by decide) | exact absurd hq1 (by decide) | exact absurd hq2 (by decide)
        · replace hq2 := Decidable.not_not.mp hq2
          refine hg_iconst (v := 1) d_T_isUnder_18 (by decide) ?_
          refine hg_ireturn d_T_isUnder_19 rfl (by decide) ?_
          refine ⟨?_, rfl⟩
          have h7 : k = 0 ∨ k = 1 ∨ k = 2 ∨ k = 3 ∨ k = 4 ∨ k = 5 ∨ k = 6 := by omega
          rcases h7 with rfl | rfl | rfl | rfl | rfl | rfl | rfl <;> first | rfl | exact absurd hq0 (by decide) | exact absurd hq1 (by decide) | exact absurd hq2 (by decide)
      · replace hq1 := Decidable.not_not.mp hq1
        refine hg_iconst (v := 1) d_T_isUnder_18 (by decide) ?_
        refine hg_ireturn d_T_isUnder_19 rfl (by decide) ?_
        refine ⟨?_, rfl⟩
        have h7 : k = 0 ∨ k = 1 ∨ k = 2 ∨ k = 3 ∨ k = 4 ∨ k = 5 ∨ k = 6 := by omega
        rcases h7 with rfl | rfl | rfl | rfl | rfl | rfl | rfl <;> first | rfl | exact absurd hq0 (by decide) | exact absurd hq1 (by decide) | exact absurd hq2 (by decide)
    · replace hq0 := Decidable.not_not.mp hq0
      refine hg_iconst (v := 1) d_T_isUnder_18 (by decide) ?_
      refine hg_ireturn d_T_isUnder_19 rfl (by decide) ?_
      refine ⟨?_, rfl⟩
      have h7 : k = 0 ∨ k = 1 ∨ k = 2 ∨ k = 3 ∨ k = 4 ∨ k = 5 ∨ k = 6 := by omega
      rcases h7 with rfl | rfl | rfl | rfl | rfl | rfl | rfl <;> first | rfl | exact absurd hq0 (by decide) | exact absurd hq1 (by decide) | exact absurd hq2 (by decide)
  · show hg_WP l E _ Y_T_isUnder 0 0 0 [some (.int 5), some (.int (nI k)), none, none] [] (I, Lg, Rf, X) _
    refine hg_iload0 d_T_isUnder_0 ?_
    refine hg_istore2 d_T_isUnder_1 rfl ?_
    refine hg_iconst (v := 0) d_T_isUnder_2 (by decide) ?_
    refine hg_istore3 d_T_isUnder_3 rfl ?_
    refine hg_iload3 d_T_isUnder_4 ?_
    refine hg_iconst (v := 3) d_T_isUnder_5 (by decide) ?_
    refine hg_icmp_ge (tgt := 32) d_T_isUnder_6 (by decide) (fun h_30 => absurd h_30 (by decide)) (fun h_30 => ?_)
    refine hg_iload2 d_T_isUnder_9 ?_
    refine hg_if_lt (tgt := 32) d_T_isUnder_10 (by decide) (fun h_31 => absurd h_31 (by decide)) (fun h_31 => ?_)
    refine hg_iload2 d_T_isUnder_13 ?_
    refine hg_iload1 d_T_isUnder_14 ?_
    refine hg_icmp_ne (tgt := 20) d_T_isUnder_15 (by decide) (fun hq0 => ?_) (fun hq0 => ?_)
    · refine hg_gets d_T_isUnder_20 s_T_13 (fun s h => hx_aboveZ h) ?_
      refine hg_iload2 d_T_isUnder_23 ?_
      refine hg_ialdT_n (j := 5) d_T_isUnder_24 (fun s h => hx_aboveT h) (by omega) (by decide) ?_
      refine hg_eq1 (y := 2) (by decide) ?_
      refine hg_istore2 d_T_isUnder_25 rfl ?_
      refine hg_iinc3 (v := 1) d_T_isUnder_26 rfl (by decide) ?_
      refine hg_goto (tgt := 4) d_T_isUnder_29 (by decide) ?_
      refine hg_iload3 d_T_isUnder_4 ?_
      refine hg_iconst (v := 3) d_T_isUnder_5 (by decide) ?_
      refine hg_icmp_ge (tgt := 32) d_T_isUnder_6 (by decide) (fun h_32 => absurd h_32 (by decide)) (fun h_32 => ?_)
      refine hg_iload2 d_T_isUnder_9 ?_
      refine hg_if_lt (tgt := 32) d_T_isUnder_10 (by decide) (fun h_33 => absurd h_33 (by decide)) (fun h_33 => ?_)
      refine hg_iload2 d_T_isUnder_13 ?_
      refine hg_iload1 d_T_isUnder_14 ?_
      refine hg_icmp_ne (tgt := 20) d_T_isUnder_15 (by decide) (fun hq1 => ?_) (fun hq1 => ?_)
      · refine hg_gets d_T_isUnder_20 s_T_13 (fun s h => hx_aboveZ h) ?_
        refine hg_iload2 d_T_isUnder_23 ?_
        refine hg_ialdT_n (j := 2) d_T_isUnder_24 (fun s h => hx_aboveT h) (by omega) (by decide) ?_
        refine hg_eq1 (y := 0) (by decide) ?_
        refine hg_istore2 d_T_isUnder_25 rfl ?_
        refine hg_iinc3 (v := 2) d_T_isUnder_26 rfl (by decide) ?_
        refine hg_goto (tgt := 4) d_T_isUnder_29 (by decide) ?_
        refine hg_iload3 d_T_isUnder_4 ?_
        refine hg_iconst (v := 3) d_T_isUnder_5 (by decide) ?_
        refine hg_icmp_ge (tgt := 32) d_T_isUnder_6 (by decide) (fun h_34 => absurd h_34 (by decide)) (fun h_34 => ?_)
        refine hg_iload2 d_T_isUnder_9 ?_
        refine hg_if_lt (tgt := 32) d_T_isUnder_10 (by decide) (fun h_35 => absurd h_35 (by decide)) (fun h_35 => ?_)
        refine hg_iload2 d_T_isUnder_13 ?_
        refine hg_iload1 d_T_isUnder_14 ?_
        refine hg_icmp_ne (tgt := 20) d_T_isUnder_15 (by decide) (fun hq2 => ?_) (fun hq2 => ?_)
        · refine hg_gets d_T_isUnder_20 s_T_13 (fun s h => hx_aboveZ h) ?_
          refine hg_iload2 d_T_isUnder_23 ?_
          refine hg_ialdT_n (j := 0) d_T_isUnder_24 (fun s h => hx_aboveT h) (by omega) (by decide) ?_
          refine hg_eq1 (y := -1) (by decide) ?_
          refine hg_istore2 d_T_isUnder_25 rfl ?_
          refine hg_iinc3 (v := 3) d_T_isUnder_26 rfl (by decide) ?_
          refine hg_goto (tgt := 4) d_T_isUnder_29 (by decide) ?_
          refine hg_iload3 d_T_isUnder_4 ?_
          refine hg_iconst (v := 3) d_T_isUnder_5 (by decide) ?_
          refine hg_icmp_ge (tgt := 32) d_T_isUnder_6 (by decide) (fun h_36 => ?_) (fun h_36 => absurd (by decide) h_36)
          refine hg_iconst (v := 0) d_T_isUnder_32 (by decide) ?_
          refine hg_ireturn d_T_isUnder_33 rfl (by decide) ?_
          refine ⟨?_, rfl⟩
          have h7 : k = 0 ∨ k = 1 ∨ k = 2 ∨ k = 3 ∨ k = 4 ∨ k = 5 ∨ k = 6 := by omega
          rcases h7 with rfl | rfl | rfl | rfl | rfl | rfl | rfl <;> first | rfl | exact absurd hq0 (by decide) | exact absurd hq1 (by decide) | exact absurd hq2 (by decide)
        · replace hq2 := Decidable.not_not.mp hq2
          refine hg_iconst (v := 1) d_T_isUnder_18 (by decide) ?_
          refine hg_ireturn d_T_isUnder_19 rfl (by decide) ?_
          refine ⟨?_, rfl⟩
          have h7 : k = 0 ∨ k = 1 ∨ k = 2 ∨ k = 3 ∨ k = 4 ∨ k = 5 ∨ k = 6 := by omega
          rcases h7 with rfl | rfl | rfl | rfl | rfl | rfl | rfl <;> first | rfl | exact absurd hq0 (by decide) | exact absurd hq1 (by decide) | exact absurd hq2 (by decide)
      · replace hq1 := Decidable.not_not.mp hq1
        refine hg_iconst (v := 1) d_T_isUnder_18 (by decide) ?_
        refine hg_ireturn d_T_isUnder_19 rfl (by decide) ?_
        refine ⟨?_, rfl⟩
        have h7 : k = 0 ∨ k = 1 ∨ k = 2 ∨ k = 3 ∨ k = 4 ∨ k = 5 ∨ k = 6 := by omega
        rcases h7 with rfl | rfl | rfl | rfl | rfl | rfl | rfl <;> first | rfl | exact absurd hq0 (by decide) | exact absurd hq1 (by decide) | exact absurd hq2 (by decide)
    · replace hq0 := Decidable.not_not.mp hq0
      refine hg_iconst (v := 1) d_T_isUnder_18 (by decide) ?_
      refine hg_ireturn d_T_isUnder_19 rfl (by decide) ?_
      refine ⟨?_, rfl⟩
      have h7 : k = 0 ∨ k = 1 ∨ k = 2 ∨ k = 3 ∨ k = 4 ∨ k = 5 ∨ k = 6 := by omega
      rcases h7 with rfl | rfl | rfl | rfl | rfl | rfl | rfl <;> first | rfl | exact absurd hq0 (by decide) | exact absurd hq1 (by decide) | exact absurd hq2 (by decide)
  · show hg_WP l E _ Y_T_isUnder 0 0 0 [some (.int 6), some (.int (nI k)), none, none] [] (I, Lg, Rf, X) _
    refine hg_iload0 d_T_isUnder_0 ?_
    refine hg_istore2 d_T_isUnder_1 rfl ?_
    refine hg_iconst (v := 0) d_T_isUnder_2 (by decide) ?_
    refine hg_istore3 d_T_isUnder_3 rfl ?_
    refine hg_iload3 d_T_isUnder_4 ?_
    refine hg_iconst (v := 3) d_T_isUnder_5 (by decide) ?_
    refine hg_icmp_ge (tgt := 32) d_T_isUnder_6 (by decide) (fun h_37 => absurd h_37 (by decide)) (fun h_37 => ?_)
    refine hg_iload2 d_T_isUnder_9 ?_
    refine hg_if_lt (tgt := 32) d_T_isUnder_10 (by decide) (fun h_38 => absurd h_38 (by decide)) (fun h_38 => ?_)
    refine hg_iload2 d_T_isUnder_13 ?_
    refine hg_iload1 d_T_isUnder_14 ?_
    refine hg_icmp_ne (tgt := 20) d_T_isUnder_15 (by decide) (fun hq0 => ?_) (fun hq0 => ?_)
    · refine hg_gets d_T_isUnder_20 s_T_13 (fun s h => hx_aboveZ h) ?_
      refine hg_iload2 d_T_isUnder_23 ?_
      refine hg_ialdT_n (j := 6) d_T_isUnder_24 (fun s h => hx_aboveT h) (by omega) (by decide) ?_
      refine hg_eq1 (y := 3) (by decide) ?_
      refine hg_istore2 d_T_isUnder_25 rfl ?_
      refine hg_iinc3 (v := 1) d_T_isUnder_26 rfl (by decide) ?_
      refine hg_goto (tgt := 4) d_T_isUnder_29 (by decide) ?_
      refine hg_iload3 d_T_isUnder_4 ?_
      refine hg_iconst (v := 3) d_T_isUnder_5 (by decide) ?_
      refine hg_icmp_ge (tgt := 32) d_T_isUnder_6 (by decide) (fun h_39 => absurd h_39 (by decide)) (fun h_39 => ?_)
      refine hg_iload2 d_T_isUnder_9 ?_
      refine hg_if_lt (tgt := 32) d_T_isUnder_10 (by decide) (fun h_40 => absurd h_40 (by decide)) (fun h_40 => ?_)
      refine hg_iload2 d_T_isUnder_13 ?_
      refine hg_iload1 d_T_isUnder_14 ?_
      refine hg_icmp_ne (tgt := 20) d_T_isUnder_15 (by decide) (fun hq1 => ?_) (fun hq1 => ?_)
      · refine hg_gets d_T_isUnder_20 s_T_13 (fun s h => hx_aboveZ h) ?_
        refine hg_iload2 d_T_isUnder_23 ?_
        refine hg_ialdT_n (j := 3) d_T_isUnder_24 (fun s h => hx_aboveT h) (by omega) (by decide) ?_
        refine hg_eq1 (y := 0) (by decide) ?_
        refine hg_istore2 d_T_isUnder_25 rfl ?_
        refine hg_iinc3 (v := 2) d_T_isUnder_26 rfl (by decide) ?_
        refine hg_goto (tgt := 4) d_T_isUnder_29 (by decide) ?_
        refine hg_iload3 d_T_isUnder_4 ?_
        refine hg_iconst (v := 3) d_T_isUnder_5 (by decide) ?_
        refine hg_icmp_ge (tgt := 32) d_T_isUnder_6 (by decide) (fun h_41 => absurd h_41 (by decide)) (fun h_41 => ?_)
        refine hg_iload2 d_T_isUnder_9 ?_
        refine hg_if_lt (tgt := 32) d_T_isUnder_10 (by decide) (fun h_42 => absurd h_42 (by decide)) (fun h_42 => ?_)
        refine hg_iload2 d_T_isUnder_13 ?_
        refine hg_iload1 d_T_isUnder_14 ?_
        refine hg_icmp_ne (tgt := 20) d_T_isUnder_15 (by decide) (fun hq2 => ?_) (fun hq2 => ?_)
        · refine hg_gets d_T_isUnder_20 s_T_13 (fun s h => hx_aboveZ h) ?_
          refine hg_iload2 d_T_isUnder_23 ?_
          refine hg_ialdT_n (j := 0) d_T_isUnder_24 (fun s h => hx_aboveT h) (by omega) (by decide) ?_
          refine hg_eq1 (y := -1) (by decide) ?_
          refine hg_istore2 d_T_isUnder_25 rfl ?_
          refine hg_iinc3 (v := 3) d_T_isUnder_26 rfl (by decide) ?_
          refine hg_goto (tgt := 4) d_T_isUnder_29 (by decide) ?_
          refine hg_iload3 d_T_isUnder_4 ?_
          refine hg_iconst (v := 3) d_T_isUnder_5 (by decide) ?_
          refine hg_icmp_ge (tgt := 32) d_T_isUnder_6 (by decide) (fun h_43 => ?_) (fun h_43 => absurd (by decide) h_43)
          refine hg_iconst (v := 0) d_T_isUnder_32 (by decide) ?_
          refine hg_ireturn d_T_isUnder_33 rfl (by decide) ?_
          refine ⟨?_, rfl⟩
          have h7 : k = 0 ∨ k = 1 ∨ k = 2 ∨ k = 3 ∨ k = 4 ∨ k = 5 ∨ k = 6 := by omega
          rcases h7 with rfl | rfl | rfl | rfl | rfl | rfl | rfl <;> first | rfl | exact absurd hq0 (by decide) | exact absurd hq1 (by decide) | exact absurd hq2 (by decide)
        · replace hq2 := Decidable.not_not.mp hq2
          refine hg_iconst (v := 1) d_T_isUnder_18 (by decide) ?_
          refine hg_ireturn d_T_isUnder_19 rfl (by decide) ?_
          refine ⟨?_, rfl⟩
          have h7 : k = 0 ∨ k = 1 ∨ k = 2 ∨ k = 3 ∨ k = 4 ∨ k = 5 ∨ k = 6 := by omega
          rcases h7 with rfl | rfl | rfl | rfl | rfl | rfl | rfl <;> first | rfl | exact absurd hq0 (by decide) | exact absurd hq1 (by decide) | exact absurd hq2 (by decide)
      · replace hq1 := Decidable.not_not.mp hq1
        refine hg_iconst (v := 1) d_T_isUnder_18 (by decide) ?_
        refine hg_ireturn d_T_isUnder_19 rfl (by decide) ?_
        refine ⟨?_, rfl⟩
        have h7 : k = 0 ∨ k = 1 ∨ k = 2 ∨ k = 3 ∨ k = 4 ∨ k = 5 ∨ k = 6 := by omega
        rcases h7 with rfl | rfl | rfl | rfl | rfl | rfl | rfl <;> first | rfl | exact absurd hq0 (by decide) | exact absurd hq1 (by decide) | exact absurd hq2 (by decide)
    · replace hq0 := Decidable.not_not.mp hq0
      refine hg_iconst (v := 1) d_T_isUnder_18 (by decide) ?_
      refine hg_ireturn d_T_isUnder_19 rfl (by decide) ?_
      refine ⟨?_, rfl⟩
      have h7 : k = 0 ∨ k = 1 ∨ k = 2 ∨ k = 3 ∨ k = 4 ∨ k = 5 ∨ k = 6 := by omega
      rcases h7 with rfl | rfl | rfl | rfl | rfl | rfl | rfl <;> first | rfl | exact absurd hq0 (by decide) | exact absurd hq1 (by decide) | exact absurd hq2 (by decide)

theorem m_D_taken {x y : Int32} (hE : hq_E T tw σ I Rf X) : hg_MC l E (d + 3) Y_D_taken 0 0 [.ref (hg_ad E 0 0), .int x, .int y] (I, Lg, Rf, X) (hg_i (fun v M' => v = sp_taken σ x y ∧ M' = (I, Lg, Rf, X))) := by
  obtain ⟨hX, hR, hC, hO, hW⟩ := id hE
  have hn6 := hO.1
  refine hg_mc k_D_taken (Nat.le_of_ble_eq_true rfl) ?_
  show hg_WP l E _ Y_D_taken 0 0 0 [some (.ref (hg_ad E 0 0)), some (.int x), some (.int y), none] [] (I, Lg, Rf, X) _
  refine hg_iload2 d_D_taken_0 ?_
  refine hg_bipush (v := 6) d_D_taken_1 (by decide) ?_
  refine hg_cSi d_D_taken_3 l_D_80 rfl (Nat.le_of_ble_eq_true rfl) (m_D_within (b := 6) (by decide)) rfl ?_
  rintro _ _ ⟨⟨hhk, rfl⟩ | ⟨hhk, rfl⟩, rfl⟩
  · obtain ⟨j, hj, ej⟩ := hhk
    have ihk : hs_ix 7 y = some j := by rw [ej]; exact hs_ix_s (by omega) (by decide)
    subst ej
    show hg_WP l E _ Y_D_taken 0 0 6 [some (.ref (hg_ad E 0 0)), some (.int x), some (.int (nI j)), none] [.int 1] (I, Lg, Rf, X) _
    refine hg_if_ne (tgt := 12) d_D_taken_6 (by decide) (fun h_1 => ?_) (fun h_1 => absurd (by decide) h_1)
    refine hg_aload0 d_D_taken_12 ?_
    refine hg_getR d_D_taken_13 f_D_69 rfl rfl (hX.lt (n := 1) ⟨by decide, by decide⟩ rfl (by omega)) (hR.D (j := 0) (q := (1, 0)) rfl) ?_
    refine hg_iload1 d_D_taken_16 ?_
    refine hg_cVr d_D_taken_17 l_D_88 rfl rfl (hX.lt (n := 3) ⟨by decide, by decide⟩ rfl (by omega)) rfl (Nat.le_of_ble_eq_true rfl) (m_S_at hX hR (by decide) hC.1 hn6) rfl ?_
    rintro _ _ ⟨⟨hat, rfl⟩ | ⟨h, hh, rfl, rfl⟩, rfl⟩
    · have iat : hs_ix (hs_n σ) x = none := hs_ix_n hat
      show hg_WP l E _ Y_D_taken 0 0 20 [some (.ref (hg_ad E 0 0)), some (.int x), some (.int (nI j)), none] [.null] (I, Lg, Rf, X) _
      refine hg_astoreN3 d_D_taken_20 rfl ?_
      refine hg_aloadN3 d_D_taken_21 ?_
      refine hg_ifnonnullN d_D_taken_22 ?_
      refine hg_bipush (v := (-11)) d_D_taken_25 (by decide) ?_
      refine hg_ireturn d_D_taken_27 rfl rfl ?_
      refine ⟨?_, rfl⟩
      simp [sp_taken, ihk, iat]
    · have iat : hs_ix (hs_n σ) (nI h) = some h := hs_ix_s hh (by omega)
      show hg_WP l E _ Y_D_taken 0 0 20 [some (.ref (hg_ad E 0 0)), some (.int (nI h)), some (.int (nI j)), none] [.ref (hg_ad E 3 (6 * 0 + h))] (I, Lg, Rf, X) _
      refine hg_astore3 d_D_taken_20 rfl ?_
      refine hg_aload3 d_D_taken_21 ?_
      refine hg_ifnonnull (tgt := 28) d_D_taken_22 (by decide) ?_
      refine hg_aload3 d_D_taken_28 ?_
      refine hg_getI d_D_taken_29 f_D_92 rfl rfl (hX.lt (n := 18) ⟨by decide, by decide⟩ rfl (by omega)) ?_
      refine hg_eq1 (y := hs_hv σ h 0) (hC.2.2.2.2.2.2.1 h 0 hh (by decide)) ?_
      refine hg_iload2 d_D_taken_32 ?_
      obtain ⟨⟨K, hK, eK⟩, -⟩ := hO.2.2.2.2.1 h hh
      rw [eK]
      refine hg_cSi d_D_taken_33 l_D_276 rfl (Nat.le_of_ble_eq_true rfl) (m_T_isUnder hK hj) rfl ?_
      rintro _ _ ⟨rfl, rfl⟩
      by_cases hu : (hs_up K).contains j = true
      · rw [if_pos hu]
        refine hg_if_eq (tgt := 46) d_D_taken_36 (by decide) (fun h_2 => absurd h_2 (by decide)) (fun h_2 => ?_)
        refine hg_aload3 d_D_taken_39 ?_
        refine hg_getI d_D_taken_40 f_D_92 rfl rfl (hX.lt (n := 18) ⟨by decide, by decide⟩ rfl (by omega)) ?_
        refine hg_eq1 (y := hs_hv σ h 0) (hC.2.2.2.2.2.2.1 h 0 hh (by decide)) ?_
        refine hg_goto (tgt := 48) d_D_taken_43 (by decide) ?_
        refine hg_ireturn d_D_taken_48 rfl rfl ?_
        refine ⟨?_, rfl⟩
        simp only [sp_taken, ihk, iat]; rw [eK, nI_clamp (by omega), if_pos hu]
      · rw [if_neg hu]
        refine hg_if_eq (tgt := 46) d_D_taken_36 (by decide) (fun h_3 => ?_) (fun h_3 => absurd (by decide) h_3)
        refine hg_bipush (v := (-12)) d_D_taken_46 (by decide) ?_
        refine hg_ireturn d_D_taken_48 rfl rfl ?_
        refine ⟨?_, rfl⟩
        simp only [sp_taken, ihk, iat]; rw [eK, nI_clamp (by omega), if_neg hu]
  · have ihk : hs_ix 7 y = none := hs_ix_n2 hhk
    refine hg_if_ne (tgt := 12) d_D_taken_6 (by decide) (fun h_4 => absurd h_4 (by decide)) (fun h_4 => ?_)
    refine hg_bipush (v := (-2)) d_D_taken_9 (by decide) ?_
    refine hg_ireturn d_D_taken_11 rfl rfl ?_
    refine ⟨?_, rfl⟩
    simp [sp_taken, ihk]

theorem m_D_read {x i : Int32} (hX : hg_XS T X) (hR : hg_SR T Rf) {P : Nat → hs_P} (hP : ∀ t, t < 6 → hs_PR t (P t) I Lg) (hPk : ∀ t, t < 6 → hs_Pok (P t)) : hg_MC l E (d + 2) Y_D_read 0 0 [.ref (hg_ad E 0 0), .int x, .int i] (I, Lg, Rf, X) (hg_l (fun v M' => v = sp_read P x i ∧ M' = (I, Lg, Rf, X))) := by
  refine hg_mc k_D_read (Nat.le_of_ble_eq_true rfl) ?_
  show hg_WP l E _ Y_D_read 0 0 0 [some (.ref (hg_ad E 0 0)), some (.int x), some (.int i), none] [] (I, Lg, Rf, X) _
  refine hg_aload0 d_D_read_0 ?_
  refine hg_iload1 d_D_read_1 ?_
  refine hg_cVr d_D_read_2 l_D_245 rfl rfl (hX.lt (n := 1) ⟨by decide, by decide⟩ rfl (by omega)) rfl (Nat.le_of_ble_eq_true rfl) (m_D_tapeAt hX hR) rfl ?_
  rintro _ _ ⟨⟨hta, rfl⟩ | ⟨t, ht, rfl, rfl⟩, rfl⟩
  · have ita : hs_ix 6 x = none := hs_ix_n hta
    show hg_WP l E _ Y_D_read 0 0 5 [some (.ref (hg_ad E 0 0)), some (.int x), some (.int i), none] [.null] (I, Lg, Rf, X) _
    refine hg_astoreN3 d_D_read_5 rfl ?_
    refine hg_aloadN3 d_D_read_6 ?_
    refine hg_ifnullN (tgt := 27) d_D_read_7 (by decide) ?_
    refine hg_ldc2 d_D_read_27 c_D_233 ?_
    refine hg_lreturn d_D_read_30 rfl ?_
    refine ⟨?_, rfl⟩
    simp [sp_read, ita]
  · have ita : hs_ix 6 (nI t) = some t := hs_ix_s ht (by decide)
    have hPt := hP t ht
    have hPkt := hPk t ht
    show hg_WP l E _ Y_D_read 0 0 5 [some (.ref (hg_ad E 0 0)), some (.int (nI t)), some (.int i), none] [.ref (hg_ad E 16 t)] (I, Lg, Rf, X) _
    refine hg_astore3 d_D_read_5 rfl ?_
    refine hg_aload3 d_D_read_6 ?_
    refine hg_ifnull d_D_read_7 ?_
    refine hg_aload3 d_D_read_10 ?_
    refine hg_iload2 d_D_read_11 ?_
    have hPl := hPkt.1
    refine hg_cVi d_D_read_12 l_D_252 rfl rfl (hX.lt (n := 6) ⟨by decide, by decide⟩ rfl (by omega)) rfl (Nat.le_of_ble_eq_true rfl) (m_P_has (n := (P t).2.1) hX hR ht hPt.2.1 hPkt.1) rfl ?_
    rintro _ _ ⟨⟨hph, rfl⟩ | ⟨hph, rfl⟩, rfl⟩
    · obtain ⟨j, hj, ej⟩ := hph
      have iph : hs_ix (P t).2.1 i = some j := by rw [ej]; exact hs_ix_s hj (by omega)
      have hlj := hPt.2.2 j (by have := hPkt.1; omega)
      subst ej
      show hg_WP l E _ Y_D_read 0 0 15 [some (.ref (hg_ad E 0 0)), some (.int (nI t)), some (.int (nI j)), some (.ref (hg_ad E 16 t))] [.int 1] (I, Lg, Rf, X) _
      refine hg_if_eq (tgt := 27) d_D_read_15 (by decide) (fun h_1 => absurd h_1 (by decide)) (fun h_1 => ?_)
      refine hg_aload3 d_D_read_18 ?_
      refine hg_getR d_D_read_19 f_D_253 rfl rfl (hX.lt (n := 6) ⟨by decide, by decide⟩ rfl (by omega)) (hR.p2 (by omega)) ?_
      refine hg_iload2 d_D_read_22 ?_
      refine hg_lald_n (j := j) d_D_read_23 rfl rfl (hX.lt (n := 6) ⟨by decide, by decide⟩ rfl (by omega)) (hX.jn (n := 60) (by decide) rfl (by omega)) ?_
      refine hg_goto (tgt := 30) d_D_read_24 (by decide) ?_
      refine hg_lreturn d_D_read_30 rfl ?_
      refine ⟨?_, rfl⟩
      simp [sp_read, ita, iph, hlj]
    · have iph : hs_ix (P t).2.1 i = none := hs_ix_n hph
      refine hg_if_eq (tgt := 27) d_D_read_15 (by decide) (fun h_2 => ?_) (fun h_2 => absurd (by decide) h_2)
      refine hg_ldc2 d_D_read_27 c_D_233 ?_
      refine hg_lreturn d_D_read_30 rfl ?_
      refine ⟨?_, rfl⟩
      simp [sp_read, ita, iph]

theorem m_D_judge_loop {x i : Int32} {t : Nat} (hE : hq_E T tw σ I Rf X) {P : Nat → hs_P} (hP : ∀ t, t < 6 → hs_PR t (P t) I Lg) (hPk : ∀ t, t < 6 → hs_Pok (P t)) (ht : t < 6) : ∀ (r k : Nat), k + r = hs_n σ → sp_judge σ P x i = sp_jd σ (P t) i r k → hg_WP l E (d + 1) Y_D_judge 0 0 33 [some (.ref (hg_ad E 0 0)), some (.int x), some (.int i), some (.ref (hg_ad E 16 t)), some (.int (nI k))] [] (I, Lg, Rf, X) (hg_i (fun v M' => v = sp_judge σ P x i ∧ M' = (I, Lg, Rf, X))) := by
  obtain ⟨hX, hR, hC, hO, hW⟩ := id hE
  have hn6 := hO.1
  have hPt := hP t ht
  have hPkt := hPk t ht
  intro r
  induction r with
  | zero =>
    intro k hkr hq
    obtain rfl : k = hs_n σ := by omega
    refine hg_iload4 d_D_judge_33 ?_
    refine hg_aload0 d_D_judge_35 ?_
    refine hg_getR d_D_judge_36 f_D_69 rfl rfl (hX.lt (n := 1) ⟨by decide, by decide⟩ rfl (by omega)) (hR.D (j := 0) (q := (1, 0)) rfl) ?_
    refine hg_getI d_D_judge_39 f_D_185 rfl rfl (hX.lt (n := 3) ⟨by decide, by decide⟩ rfl (by omega)) ?_
    refine hg_eq1 (y := nI (hs_n σ)) (hC.1) ?_
    refine hg_icmp_ge (tgt := 95) d_D_judge_42 (by decide) (fun h_1 => ?_) (fun h_1 => absurd (Int32.le_refl _) h_1)
    refine hg_bipush (v := (-5)) d_D_judge_95 (by decide) ?_
    refine hg_ireturn d_D_judge_97 rfl rfl ?_
    exact ⟨hq.symm, rfl⟩
  | succ r ih =>
    intro k hkr hq
    refine hg_iload4 d_D_judge_33 ?_
    refine hg_aload0 d_D_judge_35 ?_
    refine hg_getR d_D_judge_36 f_D_69 rfl rfl (hX.lt (n := 1) ⟨by decide, by decide⟩ rfl (by omega)) (hR.D (j := 0) (q := (1, 0)) rfl) ?_
    refine hg_getI d_D_judge_39 f_D_185 rfl rfl (hX.lt (n := 3) ⟨by decide, by decide⟩ rfl (by omega)) ?_
    refine hg_eq1 (y := nI (hs_n σ)) (hC.1) ?_
    refine hg_icmp_ge (tgt := 95) d_D_judge_42 (by decide) (fun h_2 => absurd h_2 (nI_ge (by omega) (by omega))) (fun h_2 => ?_)
    refine hg_aload3 d_D_judge_45 ?_
    refine hg_iload2 d_D_judge_46 ?_
    refine hg_iload4 d_D_judge_47 ?_
    refine hg_iadd d_D_judge_49 ?_
    have hPl := hPkt.1
    refine hg_cVi d_D_judge_50 l_D_252 rfl rfl (hX.lt (n := 6) ⟨by decide, by decide⟩ rfl (by omega)) rfl (Nat.le_of_ble_eq_true rfl) (m_P_has (n := (P t).2.1) hX hR ht hPt.2.1 hPkt.1) rfl ?_
    rintro _ _ ⟨⟨hph, rfl⟩ | ⟨hph, rfl⟩, rfl⟩
    · obtain ⟨j, hj, ej⟩ := hph
      have iph : hs_ix (P t).2.1 (i + (nI k)) = some j := by rw [ej]; exact hs_ix_s hj (by omega)
      have hlj := hPt.2.2 j (by have := hPkt.1; omega)
      refine hg_if_ne (tgt := 62) d_D_judge_53 (by decide) (fun h_3 => ?_) (fun h_3 => absurd (by decide) h_3)
      refine hg_aload3 d_D_judge_62 ?_
      refine hg_getR d_D_judge_63 f_D_253 rfl rfl (hX.lt (n := 6) ⟨by decide, by decide⟩ rfl (by omega)) (hR.p2 (by omega)) ?_
      refine hg_iload2 d_D_judge_66 ?_
      refine hg_iload4 d_D_judge_67 ?_
      refine hg_iadd d_D_judge_69 ?_
      refine hg_eq1 (y := nI j) (ej) ?_
      refine hg_lald_n (j := j) d_D_judge_70 rfl rfl (hX.lt (n := 6) ⟨by decide, by decide⟩ rfl (by omega)) (hX.jn (n := 60) (by decide) rfl (by omega)) ?_
      refine hg_aload0 d_D_judge_71 ?_
      refine hg_getR d_D_judge_72 f_D_69 rfl rfl (hX.lt (n := 1) ⟨by decide, by decide⟩ rfl (by omega)) (hR.D (j := 0) (q := (1, 0)) rfl) ?_
      refine hg_getR d_D_judge_75 f_D_182 rfl rfl (hX.lt (n := 3) ⟨by decide, by decide⟩ rfl (by omega)) (hR.s1 (by omega)) ?_
      refine hg_iload4 d_D_judge_78 ?_
      refine hg_iald_n (j := k) d_D_judge_80 rfl rfl (hX.lt (n := 3) ⟨by decide, by decide⟩ rfl (by omega)) (hX.jn (n := 6) (by decide) rfl (by omega)) ?_
      refine hg_eq1 (y := nI (hs_st σ k)) (hC.2.2.2.2.2.1 k (by omega)) ?_
      refine hg_i2l d_D_judge_81 ?_
      refine hg_lcmp d_D_judge_82 ?_
      refine hg_if_eq (tgt := 89) d_D_judge_83 (by decide) (fun hcmp => ?_) (fun hcmp => ?_)
      · refine hg_iinc4 (v := nI (k + 1)) d_D_judge_89 rfl (nI_add _ _) ?_
        refine hg_goto (tgt := 33) d_D_judge_92 (by decide) ?_
        exact ih (k + 1) (by omega) (by have q := hq; unfold sp_jd at q; rw [iph] at q; exact q.trans (if_pos (by rw [← hlj]; exact (hs_lcmp _ _).mp hcmp)))
      · refine hg_iload4 d_D_judge_86 ?_
        refine hg_ireturn d_D_judge_88 rfl rfl ?_
        refine ⟨?_, rfl⟩
        rw [hq]; unfold sp_jd; rw [iph]; exact (if_neg (fun z => hcmp ((hs_lcmp _ _).mpr (by rw [hlj]; exact z)))).symm
    · have iph : hs_ix (P t).2.1 (i + (nI k)) = none := hs_ix_n hph
      refine hg_if_ne (tgt := 62) d_D_judge_53 (by decide) (fun h_4 => absurd h_4 (by decide)) (fun h_4 => ?_)
      refine hg_bipush (v := 100) d_D_judge_56 (by decide) ?_
      refine hg_iload4 d_D_judge_58 ?_
      refine hg_iadd d_D_judge_60 ?_
      refine hg_eq1 (y := nI (100 + k)) (nI_add _ _) ?_
      refine hg_ireturn d_D_judge_61 rfl rfl ?_
      refine ⟨?_, rfl⟩
      rw [hq]; unfold sp_jd; rw [iph]

theorem m_D_judge {x i : Int32} (hE : hq_E T tw σ I Rf X) {P : Nat → hs_P} (hP : ∀ t, t < 6 → hs_PR t (P t) I Lg) (hPk : ∀ t, t < 6 → hs_Pok (P t)) : hg_MC l E (d + 2) Y_D_judge 0 0 [.ref (hg_ad E 0 0), .int x, .int i] (I, Lg, Rf, X) (hg_i (fun v M' => v = sp_judge σ P x i ∧ M' = (I, Lg, Rf, X))) := by
  obtain ⟨hX, hR, hC, hO, hW⟩ := id hE
  have hn6 := hO.1
  refine hg_mc k_D_judge (Nat.le_of_ble_eq_true rfl) ?_
  show hg_WP l E _ Y_D_judge 0 0 0 [some (.ref (hg_ad E 0 0)), some (.int x), some (.int i), none, none] [] (I, Lg, Rf, X) _
  refine hg_aload0 d_D_judge_0 ?_
  refine hg_iload1 d_D_judge_1 ?_
  refine hg_cVr d_D_judge_2 l_D_245 rfl rfl (hX.lt (n := 1) ⟨by decide, by decide⟩ rfl (by omega)) rfl (Nat.le_of_ble_eq_true rfl) (m_D_tapeAt hX hR) rfl ?_
  rintro _ _ ⟨⟨hta, rfl⟩ | ⟨t, ht, rfl, rfl⟩, rfl⟩
  · have ita : hs_ix 6 x = none := hs_ix_n hta
    show hg_WP l E _ Y_D_judge 0 0 5 [some (.ref (hg_ad E 0 0)), some (.int x), some (.int i), none, none] [.null] (I, Lg, Rf, X) _
    refine hg_astoreN3 d_D_judge_5 rfl ?_
    refine hg_aloadN3 d_D_judge_6 ?_
    refine hg_ifnonnullN d_D_judge_7 ?_
    refine hg_iconst (v := (-1)) d_D_judge_10 (by decide) ?_
    refine hg_ireturn d_D_judge_11 rfl rfl ?_
    refine ⟨?_, rfl⟩
    simp [sp_judge, ita]
  · have ita : hs_ix 6 (nI t) = some t := hs_ix_s ht (by decide)
    have hPt := hP t ht
    have hPkt := hPk t ht
    show hg_WP l E _ Y_D_judge 0 0 5 [some (.ref (hg_ad E 0 0)), some (.int (nI t)), some (.int i), none, none] [.ref (hg_ad E 16 t)] (I, Lg, Rf, X) _
    refine hg_astore3 d_D_judge_5 rfl ?_
    refine hg_aload3 d_D_judge_6 ?_
    refine hg_ifnonnull (tgt := 12) d_D_judge_7 (by decide) ?_
    refine hg_aload3 d_D_judge_12 ?_
    refine hg_getI d_D_judge_13 f_D_249 rfl rfl (hX.lt (n := 6) ⟨by decide, by decide⟩ rfl (by omega)) ?_
    refine hg_eq1 (y := (P t).1) (hPt.1) ?_
    refine hg_if_eq (tgt := 30) d_D_judge_16 (by decide) (fun hs0 => ?_) (fun hs0 => ?_)
    · refine hg_iconst (v := 0) d_D_judge_30 (by decide) ?_
      refine hg_istore4 d_D_judge_31 rfl ?_
      exact m_D_judge_loop hE hP hPk ht _ 0 (Nat.zero_add _) (by simp only [sp_judge, ita]; exact if_pos (by first | exact Or.inl hs0 | exact Or.inr hs1))
    · refine hg_aload3 d_D_judge_19 ?_
      refine hg_getI d_D_judge_20 f_D_249 rfl rfl (hX.lt (n := 6) ⟨by decide, by decide⟩ rfl (by omega)) ?_
      refine hg_eq1 (y := (P t).1) (hPt.1) ?_
      refine hg_iconst (v := (-1)) d_D_judge_23 (by decide) ?_
      refine hg_icmp_eq (tgt := 30) d_D_judge_24 (by decide) (fun hs1 => ?_) (fun hs1 => ?_)
      · refine hg_iconst (v := 0) d_D_judge_30 (by decide) ?_
        refine hg_istore4 d_D_judge_31 rfl ?_
        exact m_D_judge_loop hE hP hPk ht _ 0 (Nat.zero_add _) (by simp only [sp_judge, ita]; exact if_pos (by first | exact Or.inl hs0 | exact Or.inr hs1))
      · refine hg_bipush (v := (-12)) d_D_judge_27 (by decide) ?_
        refine hg_ireturn d_D_judge_29 rfl rfl ?_
        refine ⟨?_, rfl⟩
        simp only [sp_judge, ita]; exact (if_neg (fun z => z.elim hs0 hs1)).symm

theorem m_D_looked_loop {a : hs_L} (hE : hq_E T tw σ I Rf X) (hA : hs_LR 4 a I) (ha : a.1 ≤ 8) (hL : hs_Lok (hs_n σ) a 2) : ∀ (r i : Nat) (a2 : Option Value), i + r = a.1 → sp_lk σ a a.1 0 = sp_lk σ a r i → hg_WP l E (d + 2) Y_D_looked 0 0 2 [some (.ref (hg_ad E 0 0)), some (.int (nI i)), a2] [] (I, Lg, Rf, X) (hg_i (fun v M' => v = sp_lk σ a a.1 0 ∧ M' = (I, Lg, Rf, X))) := by
  obtain ⟨hX, hR, hC, hO, hW⟩ := id hE
  have hn6 := hO.1
  intro r
  induction r with
  | zero =>
    intro i a2 hir hq
    obtain rfl : i = a.1 := by omega
    refine hg_iload1 d_D_looked_2 ?_
    refine hg_aload0 d_D_looked_3 ?_
    refine hg_getR d_D_looked_4 f_D_29 rfl rfl (hX.lt (n := 1) ⟨by decide, by decide⟩ rfl (by omega)) (hR.D (j := 7) (q := (7, 4)) rfl) ?_
    refine hg_getI d_D_looked_7 f_D_221 rfl rfl (hX.lt (n := 6) ⟨by decide, by decide⟩ rfl (by omega)) ?_
    refine hg_eq1 (y := nI a.1) (hA.1) ?_
    refine hg_icmp_ge (tgt := 58) d_D_looked_10 (by decide) (fun h_1 => ?_) (fun h_1 => absurd (Int32.le_refl _) h_1)
    refine hg_bipush (v := (-5)) d_D_looked_58 (by decide) ?_
    refine hg_ireturn d_D_looked_60 rfl rfl ?_
    exact ⟨hq.symm, rfl⟩
  | succ r ih =>
    intro i a2 hir hq
    obtain ⟨h, hh, eh⟩ := hL i (by omega)
    refine hg_iload1 d_D_looked_2 ?_
    refine hg_aload0 d_D_looked_3 ?_
    refine hg_getR d_D_looked_4 f_D_29 rfl rfl (hX.lt (n := 1) ⟨by decide, by decide⟩ rfl (by omega)) (hR.D (j := 7) (q := (7, 4)) rfl) ?_
    refine hg_getI d_D_looked_7 f_D_221 rfl rfl (hX.lt (n := 6) ⟨by decide, by decide⟩ rfl (by omega)) ?_
    refine hg_eq1 (y := nI a.1) (hA.1) ?_
    refine hg_icmp_ge (tgt := 58) d_D_looked_10 (by decide) (fun h_2 => absurd h_2 (nI_ge (by omega) (by omega))) (fun h_2 => ?_)
    refine hg_aload0 d_D_looked_13 ?_
    refine hg_getR d_D_looked_14 f_D_69 rfl rfl (hX.lt (n := 1) ⟨by decide, by decide⟩ rfl (by omega)) (hR.D (j := 0) (q := (1, 0)) rfl) ?_
    refine hg_aload0 d_D_looked_17 ?_
    refine hg_getR d_D_looked_18 f_D_29 rfl rfl (hX.lt (n := 1) ⟨by decide, by decide⟩ rfl (by omega)) (hR.D (j := 7) (q := (7, 4)) rfl) ?_
    refine hg_getR d_D_looked_21 f_D_222 rfl rfl (hX.lt (n := 6) ⟨by decide, by decide⟩ rfl (by omega)) (hR.w0 (by omega)) ?_
    refine hg_iload1 d_D_looked_24 ?_
    refine hg_iald_n (j := i) d_D_looked_25 rfl rfl (hX.lt (n := 6) ⟨by decide, by decide⟩ rfl (by omega)) (hX.jn (n := 8) (by decide) rfl (by omega)) ?_
    refine hg_eq1 (y := nI h) ((hA.2.1 i (by omega)).trans eh) ?_
    refine hg_cVr d_D_looked_26 l_D_88 rfl rfl (hX.lt (n := 3) ⟨by decide, by decide⟩ rfl (by omega)) rfl (Nat.le_of_ble_eq_true rfl) (m_S_at hX hR (by decide) hC.1 hn6) rfl ?_
    rintro _ _ ⟨⟨hna, rfl⟩ | ⟨h2, hh2, e2, rfl⟩, rfl⟩
    · exact absurd ⟨h, hh, rfl⟩ hna
    · obtain rfl : h = h2 := (nI_eq (by omega) (by omega)).mp e2
      show hg_WP l E _ Y_D_looked 0 0 29 [some (.ref (hg_ad E 0 0)), some (.int (nI i)), a2] [.ref (hg_ad E 3 (6 * 0 + h))] (I, Lg, Rf, X) _
      refine hg_astore2 d_D_looked_29 rfl ?_
      refine hg_aload2 d_D_looked_30 ?_
      refine hg_ifnull d_D_looked_31 ?_
      refine hg_aload2 d_D_looked_34 ?_
      refine hg_getI d_D_looked_35 f_D_107 rfl rfl (hX.lt (n := 18) ⟨by decide, by decide⟩ rfl (by omega)) ?_
      refine hg_eq1 (y := hs_hv σ h 4) (hC.2.2.2.2.2.2.1 h 4 hh (by decide)) ?_
      refine hg_aload0 d_D_looked_38 ?_
      refine hg_getR d_D_looked_39 f_D_29 rfl rfl (hX.lt (n := 1) ⟨by decide, by decide⟩ rfl (by omega)) (hR.D (j := 7) (q := (7, 4)) rfl) ?_
      refine hg_getR d_D_looked_42 f_D_230 rfl rfl (hX.lt (n := 6) ⟨by decide, by decide⟩ rfl (by omega)) (hR.w1 (by omega)) ?_
      refine hg_iload1 d_D_looked_45 ?_
      refine hg_iald_n (j := i) d_D_looked_46 rfl rfl (hX.lt (n := 6) ⟨by decide, by decide⟩ rfl (by omega)) (hX.jn (n := 8) (by decide) rfl (by omega)) ?_
      refine hg_eq1 (y := a.2.2 i) (hA.2.2 i (by omega)) ?_
      refine hg_icmp_eq (tgt := 52) d_D_looked_47 (by decide) (fun hne => ?_) (fun hne => ?_)
      · refine hg_iinc1 (v := nI (i + 1)) d_D_looked_52 rfl (nI_add _ _) ?_
        refine hg_goto (tgt := 2) d_D_looked_55 (by decide) ?_
        exact ih (i + 1) _ (by omega) (hq.trans (by show (if hs_hv σ (a.2.1 i).toNatClampNeg 4 = a.2.2 i then _ else _) = _; rw [eh, nI_clamp (by omega)]; exact if_pos hne))
      · refine hg_iload1 d_D_looked_50 ?_
        refine hg_ireturn d_D_looked_51 rfl rfl ?_
        refine ⟨?_, rfl⟩
        rw [hq]; unfold sp_lk; rw [eh, nI_clamp (by omega)]; exact (if_neg hne).symm
theorem m_D_looked {a : hs_L} (hE : hq_E T tw σ I Rf X) (hA : hs_LR 4 a I) (ha : a.1 ≤ 8) (hL : hs_Lok (hs_n σ) a 2) : hg_MC l E (d + 3) Y_D_looked 0 0 [.ref (hg_ad E 0 0)] (I, Lg, Rf, X) (hg_i (fun v M' => v = sp_lk σ a a.1 0 ∧ M' = (I, Lg, Rf, X))) := by
  refine hg_mc k_D_looked (Nat.le_of_ble_eq_true rfl) ?_
  show hg_WP l E _ Y_D_looked 0 0 0 [some (.ref (hg_ad E 0 0)), none, none] [] (I, Lg, Rf, X) _
  refine hg_iconst (v := 0) d_D_looked_0 (by decide) ?_
  refine hg_istore1 d_D_looked_1 rfl ?_
  exact m_D_looked_loop hE hA ha hL _ 0 none (Nat.zero_add _) rfl

end M10
