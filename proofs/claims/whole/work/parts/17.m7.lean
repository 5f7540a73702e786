/-! ACTS, THE TRACE -/
abbrev tk_S : Type := Nat × (Nat → Int32)
def tk_r (b : Int32) (st : tk_S) : tk_S := (st.1 + 1, if st.1 < 20 then (fun j => if j = st.1 then b else st.2 j) else st.2)
def tk_A (p : Nat) (v : Int32) (k : Nat) (x : Int32) (st : tk_S) : Int32 × tk_S := match k with
  | 2 => (x * 3 + nI p, tk_r 10 (tk_r 30 st))
  | 5 => (x * 3 + nI p, tk_r 10 (tk_r 30 st))
  | 4 => (-(x + nI p), tk_r 10 (tk_r 50 st))
  | 6 => ((x + nI p) ^^^ v, tk_r 10 (tk_r 71 st))
  | _ => (x + nI p, tk_r 10 st)
def tk_T0 (p : Nat) (v : Int32) (K : Nat) (x : Int32) (st : tk_S) : Int32 × tk_S := ((tk_A p v K x (tk_r 11 st)).1 - v, (tk_A p v K x (tk_r 11 st)).2)
def tk_T (p : Nat) (v : Int32) (K k : Nat) (x : Int32) (st : tk_S) : Int32 × tk_S := match k with
  | 1 => ((tk_T0 p v K x (tk_r 20 st)).1 ^^^ 6, (tk_T0 p v K x (tk_r 20 st)).2)
  | 4 => ((tk_T0 p v K (x + 1) (tk_r 20 (tk_r 51 st))).1 ^^^ 6, (tk_T0 p v K (x + 1) (tk_r 20 (tk_r 51 st))).2)
  | 6 => ((tk_T0 p v K x (tk_r 70 st)).1 + (tk_A p v 3 2 (tk_T0 p v K x (tk_r 70 st)).2).1, (tk_A p v 3 2 (tk_T0 p v K x (tk_r 70 st)).2).2)
  | _ => tk_T0 p v K x st
def tk_L0 (p : Nat) (v : Int32) (K : Nat) (x : Int32) (st : tk_S) : Int32 × tk_S := ((tk_T p v K K x (tk_r 12 st)).1 * 2, (tk_T p v K K x (tk_r 12 st)).2)
def tk_L3 (p : Nat) (v : Int32) (K : Nat) (x : Int32) (st : tk_S) : Int32 × tk_S := ((tk_L0 p v K x (tk_r 40 st)).1 + (tk_T p v K K 1 (tk_L0 p v K x (tk_r 40 st)).2).1, (tk_T p v K K 1 (tk_L0 p v K x (tk_r 40 st)).2).2)
def tk_L (p : Nat) (v : Int32) (K k : Nat) (x : Int32) (st : tk_S) : Int32 × tk_S := match k with
  | 3 => tk_L3 p v K x st
  | 6 => tk_L3 p v K x st
  | 5 => tk_L0 p v K (x - nI p) (tk_r 60 st)
  | _ => tk_L0 p v K x st
theorem tk_A_le (p : Nat) (v : Int32) (k : Nat) (x : Int32) (st : tk_S) : (tk_A p v k x st).2.1 ≤ st.1 + 2 := by
  unfold tk_A
  split <;> simp [tk_r]
theorem tk_T0_le (p : Nat) (v : Int32) (K : Nat) (x : Int32) (st : tk_S) : (tk_T0 p v K x st).2.1 ≤ st.1 + 3 := by
  have := tk_A_le p v K x (tk_r 11 st)
  show (tk_A p v K x (tk_r 11 st)).2.1 ≤ _
  have e : (tk_r 11 st).1 = st.1 + 1 := rfl
  omega
theorem tk_T_le (p : Nat) (v : Int32) (K k : Nat) (x : Int32) (st : tk_S) : (tk_T p v K k x st).2.1 ≤ st.1 + 6 := by
  unfold tk_T
  split
  · have := tk_T0_le p v K x (tk_r 20 st); have e : (tk_r 20 st).1 = st.1 + 1 := rfl; simp only; omega
  · have := tk_T0_le p v K (x + 1) (tk_r 20 (tk_r 51 st)); have e : (tk_r 20 (tk_r 51 st)).1 = st.1 + 2 := rfl; simp only; omega
  · have := tk_T0_le p v K x (tk_r 70 st); have e : (tk_r 70 st).1 = st.1 + 1 := rfl
    have := tk_A_le p v 3 2 (tk_T0 p v K x (tk_r 70 st)).2; simp only; omega
  · have := tk_T0_le p v K x st; omega
theorem tk_L0_le (p : Nat) (v : Int32) (K : Nat) (x : Int32) (st : tk_S) : (tk_L0 p v K x st).2.1 ≤ st.1 + 7 := by
  have := tk_T_le p v K K x (tk_r 12 st)
  show (tk_T p v K K x (tk_r 12 st)).2.1 ≤ _
  have e : (tk_r 12 st).1 = st.1 + 1 := rfl
  omega
section M7
variable {l : Launch} {E : hg_E} {d T : Nat}
variable {I : Nat → Nat → Nat → Int32} {Lg : Nat → Nat → Nat → Int64} {Rf : Nat → Nat → Nat → Option (Nat × Nat)} {X : Nat × (Nat → Nat) × (Nat → Nat → Nat)}

def tk_C (st : tk_S) (I : Nat → Nat → Nat → Int32) : Prop := I 13 0 1 = nI st.1 ∧ ∀ j, j < 20 → I 14 0 j = st.2 j
def tk_K (p : Nat) (v : Int32) (K : Nat) (I : Nat → Nat → Nat → Int32) : Prop := I 13 0 2 = nI p ∧ I 13 0 3 = nI K ∧ I 13 0 4 = v
/-- only THE TRACE changed -/
def hg_ft (I' I : Nat → Nat → Nat → Int32) : Prop := (∀ k, k ≠ 13 → k ≠ 14 → I' k = I k) ∧ ∀ q j, j ≠ 1 → I' 13 q j = I 13 q j
theorem hg_ft.rf : hg_ft I I := ⟨fun _ _ _ => rfl, fun _ _ _ => rfl⟩
theorem hg_ft.tr {I' I1 : Nat → Nat → Nat → Int32} (h : hg_ft I' I1) (h1 : hg_ft I1 I) : hg_ft I' I := ⟨fun k a b => (h.1 k a b).trans (h1.1 k a b), fun q j hj => (h.2 q j hj).trans (h1.2 q j hj)⟩
theorem tk_K.ft {p K : Nat} {v : Int32} {I' : Nat → Nat → Nat → Int32} (h : tk_K p v K I) (hf : hg_ft I' I) : tk_K p v K I' := by
  unfold tk_K at h ⊢
  rw [hf.2 0 2 (by decide), hf.2 0 3 (by decide), hf.2 0 4 (by decide)]
  exact h
theorem tk_C.r {st : tk_S} {b : Int32} (h : tk_C st I) (hs : st.1 < 20) : tk_C (tk_r b st) (hg_u3 (hg_u3 I 14 0 st.1 b) 13 0 1 (nI (st.1 + 1))) ∧ hg_ft (hg_u3 (hg_u3 I 14 0 st.1 b) 13 0 1 (nI (st.1 + 1))) I := by
  refine ⟨⟨by simp [hg_u3, tk_r], fun j hj => ?_⟩, fun k h1 h2 => ?_, fun q j hj => ?_⟩
  · show hg_u3 _ 13 0 1 _ 14 0 j = (if st.1 < 20 then (fun j => if j = st.1 then b else st.2 j) else st.2) j
    rw [if_pos hs]
    by_cases e : j = st.1
    · subst e; simp [hg_u3]
    · simp [hg_u3, e, h.2 j hj]
  · funext q j; simp [hg_u3, h1, h2]
  · simp [hg_u3, hj]
theorem tk_C.r2 {st : tk_S} {b : Int32} (h : tk_C st I) (hs : ¬ st.1 < 20) : tk_C (tk_r b st) (hg_u3 I 13 0 1 (nI (st.1 + 1))) ∧ hg_ft (hg_u3 I 13 0 1 (nI (st.1 + 1))) I := by
  refine ⟨⟨by simp [hg_u3, tk_r], fun j hj => ?_⟩, fun k h1 h2 => ?_, fun q j hj => ?_⟩
  · show hg_u3 I 13 0 1 _ 14 0 j = (if st.1 < 20 then (fun j => if j = st.1 then b else st.2 j) else st.2) j
    rw [if_neg hs, ← h.2 j hj]
    simp [hg_u3]
  · funext q j; simp [hg_u3, h1]
  · simp [hg_u3, hj]

theorem m_run10 {p K dl : Nat} {v x : Int32} {st : tk_S} (hX : hg_XS T X) (hR : hg_SR T Rf) (hC : tk_C st I) (hK : tk_K p v K I) (hKk : K ≤ 6) (hd : dl ≤ 38) (hr : st.1 ≤ 990) : hg_MC l E (d + 1) Y_T_run 0 0 [.ref (hg_ad E 13 0), .int 10, .int 0, .int x, .int (nI dl)] (I, Lg, Rf, X) (hg_i (fun r M' => ∃ I' : Nat → Nat → Nat → Int32, r = ((x + nI p, tk_r 10 st)).1 ∧ M' = (I', Lg, Rf, X) ∧ tk_C ((x + nI p, tk_r 10 st)).2 I' ∧ hg_ft I' I)) := by
  refine hg_mc k_T_run (Nat.le_of_ble_eq_true rfl) ?_
  show hg_WP l E _ Y_T_run 0 0 0 [some (.ref (hg_ad E 13 0)), some (.int 10), some (.int 0), some (.int x), some (.int (nI dl)), none, none] [] (I, Lg, Rf, X) _
  refine hg_iload4 d_T_run_0 ?_
  refine hg_bipush (v := 40) d_T_run_2 (by decide) ?_
  refine hg_icmp_ne (tgt := 9) d_T_run_4 (by decide) (fun h_1 => ?_) (fun h_1 => absurd (fun (e : nI dl = nI 40) => by have := (nI_eq (by omega) (by decide)).mp e; omega) h_1)
  refine hg_aload0 d_T_run_9 ?_
  refine hg_getI d_T_run_10 f_T_16 rfl rfl (hX.lt (n := 1) ⟨by decide, by decide⟩ rfl (by omega)) ?_
  refine hg_eq1 (y := nI st.1) (hC.1) ?_
  refine hg_bipush (v := 20) d_T_run_13 (by decide) ?_
  have K1 : ∀ I1 : Nat → Nat → Nat → Int32, tk_C (tk_r 10 st) I1 → hg_ft I1 I → hg_WP l E (d) Y_T_run 0 0 38 [some (.ref (hg_ad E 13 0)), some (.int 10), some (.int 0), some (.int x), some (.int (nI dl)), none, none] [] (I1, Lg, Rf, X) (hg_i (fun r M' => ∃ I' : Nat → Nat → Nat → Int32, r = ((x + nI p, tk_r 10 st)).1 ∧ M' = (I', Lg, Rf, X) ∧ tk_C ((x + nI p, tk_r 10 st)).2 I' ∧ hg_ft I' I)) := by
    intro I1 hC1 hf1
    have hK1 := hK.ft hf1
    refine hg_gets d_T_run_38 s_T_13 (fun s h => hx_aboveZ h) ?_
    refine hg_iload2 d_T_run_41 ?_
    refine hg_ialdT_n (j := 0) d_T_run_42 (fun s h => hx_aboveT h) (by omega) (by decide) ?_
    refine hg_eq1 (y := -1) (by decide) ?_
    refine hg_istore5 d_T_run_43 rfl ?_
    refine hg_iload4 d_T_run_45 ?_
    refine hg_iconst (v := 1) d_T_run_47 (by decide) ?_
    refine hg_iadd d_T_run_48 ?_
    refine hg_eq1 (y := nI (dl + 1)) (nI_add _ _) ?_
    refine hg_istore6 d_T_run_49 rfl ?_
    refine hg_iload1 d_T_run_51 ?_
    refine hg_look (off := 100) (tgt := 152) d_T_run_52 (by decide) (by decide) (by decide) ?_
    refine hg_iload3 d_T_run_152 ?_
    refine hg_aload0 d_T_run_153 ?_
    refine hg_getI d_T_run_154 f_T_26 rfl rfl (hX.lt (n := 1) ⟨by decide, by decide⟩ rfl (by omega)) ?_
    refine hg_eq1 (y := nI p) (hK1.1) ?_
    refine hg_iadd d_T_run_157 ?_
    refine hg_ireturn d_T_run_158 rfl rfl ?_
    exact ⟨I1, rfl, rfl, hC1, hf1⟩
  refine hg_icmp_ge (tgt := 28) d_T_run_15 (by decide) (fun h20 => ?_) (fun h20 => ?_)
  · have h20 : ¬ st.1 < 20 := by have z := h20; rw [show (20 : Int32) = nI 20 from rfl, nI_leI (by decide) (by omega)] at z; omega
    refine hg_aload0 d_T_run_28 ?_
    refine hg_dup d_T_run_29 rfl ?_
    refine hg_getI d_T_run_30 f_T_16 rfl rfl (hX.lt (n := 1) ⟨by decide, by decide⟩ rfl (by omega)) ?_
    refine hg_eq1 (y := nI st.1) (hC.1) ?_
    refine hg_iconst (v := 1) d_T_run_33 (by decide) ?_
    refine hg_iadd d_T_run_34 ?_
    refine hg_eq1 (y := nI (st.1 + 1)) (nI_add _ _) ?_
    refine hg_putI d_T_run_35 f_T_16 rfl rfl (Or.inl rfl) rfl rfl (hX.lt (n := 1) ⟨by decide, by decide⟩ rfl (by omega)) ?_
    exact K1 _ (hC.r2 (b := 10) h20).1 (hC.r2 (b := 10) h20).2
  · have h20 : st.1 < 20 := by have z := h20; rw [show (20 : Int32) = nI 20 from rfl, nI_leI (by decide) (by omega)] at z; omega
    refine hg_aload0 d_T_run_18 ?_
    refine hg_getR d_T_run_19 f_T_9 rfl rfl (hX.lt (n := 1) ⟨by decide, by decide⟩ rfl (by omega)) hR.t0 ?_
    refine hg_aload0 d_T_run_22 ?_
    refine hg_getI d_T_run_23 f_T_16 rfl rfl (hX.lt (n := 1) ⟨by decide, by decide⟩ rfl (by omega)) ?_
    refine hg_eq1 (y := nI st.1) (hC.1) ?_
    refine hg_iload1 d_T_run_26 ?_
    refine hg_iast_n (j := st.1) d_T_run_27 rfl rfl (hX.lt (n := 1) ⟨by decide, by decide⟩ rfl (by omega)) (hX.jn (n := 20) (by decide) rfl (by omega)) ?_
    refine hg_aload0 d_T_run_28 ?_
    refine hg_dup d_T_run_29 rfl ?_
    refine hg_getI d_T_run_30 f_T_16 rfl rfl (hX.lt (n := 1) ⟨by decide, by decide⟩ rfl (by omega)) ?_
    refine hg_eq1 (y := I 13 0 1) (by simp [hg_u3]) ?_
    refine hg_eq1 (y := nI st.1) (hC.1) ?_
    refine hg_iconst (v := 1) d_T_run_33 (by decide) ?_
    refine hg_iadd d_T_run_34 ?_
    refine hg_eq1 (y := nI (st.1 + 1)) (nI_add _ _) ?_
    refine hg_putI d_T_run_35 f_T_16 rfl rfl (Or.inl rfl) rfl rfl (hX.lt (n := 1) ⟨by decide, by decide⟩ rfl (by omega)) ?_
    exact K1 _ (hC.r h20).1 (hC.r h20).2

theorem m_find_A0 {p K dl : Nat} {v x : Int32} {st : tk_S} (hX : hg_XS T X) (hR : hg_SR T Rf) (hC : tk_C st I) (hK : tk_K p v K I) (hKk : K ≤ 6) (hd : dl ≤ 37) (hr : st.1 ≤ 980) : hg_MC l E (d + 2) Y_T_find 0 0 [.ref (hg_ad E 13 0), .int 0, .int 0, .int x, .int (nI dl)] (I, Lg, Rf, X) (hg_i (fun r M' => ∃ I' : Nat → Nat → Nat → Int32, r = (tk_A p v 0 (x) st).1 ∧ M' = (I', Lg, Rf, X) ∧ tk_C (tk_A p v 0 (x) st).2 I' ∧ hg_ft I' I)) := by
  refine hg_mc k_T_find (Nat.le_of_ble_eq_true rfl) ?_
  show hg_WP l E _ Y_T_find 0 0 0 [some (.ref (hg_ad E 13 0)), some (.int 0), some (.int 0), some (.int x), some (.int (nI dl)), none, none, none] [] (I, Lg, Rf, X) _
  refine hg_iload2 d_T_find_0 ?_
  refine hg_istore5 d_T_find_1 rfl ?_
  refine hg_iconst (v := 0) d_T_find_3 (by decide) ?_
  refine hg_istore6 d_T_find_4 rfl ?_
  refine hg_iload6 d_T_find_6 ?_
  refine hg_iconst (v := 3) d_T_find_8 (by decide) ?_
  refine hg_icmp_ge (tgt := 60) d_T_find_9 (by decide) (fun h_1 => absurd h_1 (by decide)) (fun h_1 => ?_)
  refine hg_iload5 d_T_find_12 ?_
  refine hg_if_lt (tgt := 60) d_T_find_14 (by decide) (fun h_2 => absurd h_2 (by decide)) (fun h_2 => ?_)
  refine hg_gets d_T_find_17 s_T_43 (fun s h => hx_bodiesZ h) ?_
  refine hg_iconst (v := 3) d_T_find_20 (by decide) ?_
  refine hg_iload5 d_T_find_21 ?_
  refine hg_imul d_T_find_23 ?_
  refine hg_eq1 (y := 0) (by decide) ?_
  refine hg_iload1 d_T_find_24 ?_
  refine hg_iadd d_T_find_25 ?_
  refine hg_eq1 (y := 0) (by decide) ?_
  refine hg_ialdT_n (j := 0) d_T_find_26 (fun s h => hx_bodiesT h) (by omega) (by decide) ?_
  refine hg_eq1 (y := 10) (by decide) ?_
  refine hg_istore7 d_T_find_27 rfl ?_
  refine hg_iload7 d_T_find_29 ?_
  refine hg_if_eq (tgt := 46) d_T_find_31 (by decide) (fun h_3 => absurd h_3 (by decide)) (fun h_3 => ?_)
  refine hg_aload0 d_T_find_34 ?_
  refine hg_iload7 d_T_find_35 ?_
  refine hg_iload5 d_T_find_37 ?_
  refine hg_iload3 d_T_find_39 ?_
  refine hg_iload4 d_T_find_40 ?_
  refine hg_cVi d_T_find_42 l_T_46 rfl rfl (hX.lt (n := 1) ⟨by decide, by decide⟩ rfl (by omega)) rfl (Nat.le_of_ble_eq_true rfl) (m_run10 (x := x) (st := st) (dl := dl) hX hR hC hK hKk (by omega) (by omega)) rfl ?_
  rintro _ _ ⟨I1, rfl, rfl, hC1, hf1⟩
  refine hg_ireturn d_T_find_45 rfl rfl ?_
  exact ⟨I1, rfl, rfl, hC1, hf1⟩

theorem m_find_A1 {p K dl : Nat} {v x : Int32} {st : tk_S} (hX : hg_XS T X) (hR : hg_SR T Rf) (hC : tk_C st I) (hK : tk_K p v K I) (hKk : K ≤ 6) (hd : dl ≤ 37) (hr : st.1 ≤ 980) : hg_MC l E (d + 2) Y_T_find 0 0 [.ref (hg_ad E 13 0), .int 0, .int 1, .int x, .int (nI dl)] (I, Lg, Rf, X) (hg_i (fun r M' => ∃ I' : Nat → Nat → Nat → Int32, r = (tk_A p v 1 (x) st).1 ∧ M' = (I', Lg, Rf, X) ∧ tk_C (tk_A p v 1 (x) st).2 I' ∧ hg_ft I' I)) := by
  refine hg_mc k_T_find (Nat.le_of_ble_eq_true rfl) ?_
  show hg_WP l E _ Y_T_find 0 0 0 [some (.ref (hg_ad E 13 0)), some (.int 0), some (.int 1), some (.int x), some (.int (nI dl)), none, none, none] [] (I, Lg, Rf, X) _
  refine hg_iload2 d_T_find_0 ?_
  refine hg_istore5 d_T_find_1 rfl ?_
  refine hg_iconst (v := 0) d_T_find_3 (by decide) ?_
  refine hg_istore6 d_T_find_4 rfl ?_
  refine hg_iload6 d_T_find_6 ?_
  refine hg_iconst (v := 3) d_T_find_8 (by decide) ?_
  refine hg_icmp_ge (tgt := 60) d_T_find_9 (by decide) (fun h_1 => absurd h_1 (by decide)) (fun h_1 => ?_)
  refine hg_iload5 d_T_find_12 ?_
  refine hg_if_lt (tgt := 60) d_T_find_14 (by decide) (fun h_2 => absurd h_2 (by decide)) (fun h_2 => ?_)
  refine hg_gets d_T_find_17 s_T_43 (fun s h => hx_bodiesZ h) ?_
  refine hg_iconst (v := 3) d_T_find_20 (by decide) ?_
  refine hg_iload5 d_T_find_21 ?_
  refine hg_imul d_T_find_23 ?_
  refine hg_eq1 (y := 3) (by decide) ?_
  refine hg_iload1 d_T_find_24 ?_
  refine hg_iadd d_T_find_25 ?_
  refine hg_eq1 (y := 3) (by decide) ?_
  refine hg_ialdT_n (j := 3) d_T_find_26 (fun s h => hx_bodiesT h) (by omega) (by decide) ?_
  refine hg_eq1 (y := 0) (by decide) ?_
  refine hg_istore7 d_T_find_27 rfl ?_
  refine hg_iload7 d_T_find_29 ?_
  refine hg_if_eq (tgt := 46) d_T_find_31 (by decide) (fun h_3 => ?_) (fun h_3 => absurd (by decide) h_3)
  refine hg_gets d_T_find_46 s_T_13 (fun s h => hx_aboveZ h) ?_
  refine hg_iload5 d_T_find_49 ?_
  refine hg_ialdT_n (j := 1) d_T_find_51 (fun s h => hx_aboveT h) (by omega) (by decide) ?_
  refine hg_eq1 (y := 0) (by decide) ?_
  refine hg_istore5 d_T_find_52 rfl ?_
  refine hg_iinc6 (v := 1) d_T_find_54 rfl (by decide) ?_
  refine hg_goto (tgt := 6) d_T_find_57 (by decide) ?_
  refine hg_iload6 d_T_find_6 ?_
  refine hg_iconst (v := 3) d_T_find_8 (by decide) ?_
  refine hg_icmp_ge (tgt := 60) d_T_find_9 (by decide) (fun h_4 => absurd h_4 (by decide)) (fun h_4 => ?_)
  refine hg_iload5 d_T_find_12 ?_
  refine hg_if_lt (tgt := 60) d_T_find_14 (by decide) (fun h_5 => absurd h_5 (by decide)) (fun h_5 => ?_)
  refine hg_gets d_T_find_17 s_T_43 (fun s h => hx_bodiesZ h) ?_
  refine hg_iconst (v := 3) d_T_find_20 (by decide) ?_
  refine hg_iload5 d_T_find_21 ?_
  refine hg_imul d_T_find_23 ?_
  refine hg_eq1 (y := 0) (by decide) ?_
  refine hg_iload1 d_T_find_24 ?_
  refine hg_iadd d_T_find_25 ?_
  refine hg_eq1 (y := 0) (by decide) ?_
  refine hg_ialdT_n (j := 0) d_T_find_26 (fun s h => hx_bodiesT h) (by omega) (by decide) ?_
  refine hg_eq1 (y := 10) (by decide) ?_
  refine hg_istore7 d_T_find_27 rfl ?_
  refine hg_iload7 d_T_find_29 ?_
  refine hg_if_eq (tgt := 46) d_T_find_31 (by decide) (fun h_6 => absurd h_6 (by decide)) (fun h_6 => ?_)
  refine hg_aload0 d_T_find_34 ?_
  refine hg_iload7 d_T_find_35 ?_
  refine hg_iload5 d_T_find_37 ?_
  refine hg_iload3 d_T_find_39 ?_
  refine hg_iload4 d_T_find_40 ?_
  refine hg_cVi d_T_find_42 l_T_46 rfl rfl (hX.lt (n := 1) ⟨by decide, by decide⟩ rfl (by omega)) rfl (Nat.le_of_ble_eq_true rfl) (m_run10 (x := x) (st := st) (dl := dl) hX hR hC hK hKk (by omega) (by omega)) rfl ?_
  rintro _ _ ⟨I1, rfl, rfl, hC1, hf1⟩
  refine hg_ireturn d_T_find_45 rfl rfl ?_
  exact ⟨I1, rfl, rfl, hC1, hf1⟩

theorem m_find_A3 {p K dl : Nat} {v x : Int32} {st : tk_S} (hX : hg_XS T X) (hR : hg_SR T Rf) (hC : tk_C st I) (hK : tk_K p v K I) (hKk : K ≤ 6) (hd : dl ≤ 37) (hr : st.1 ≤ 980) : hg_MC l E (d + 2) Y_T_find 0 0 [.ref (hg_ad E 13 0), .int 0, .int 3, .int x, .int (nI dl)] (I, Lg, Rf, X) (hg_i (fun r M' => ∃ I' : Nat → Nat → Nat → Int32, r = (tk_A p v 3 (x) st).1 ∧ M' = (I', Lg, Rf, X) ∧ tk_C (tk_A p v 3 (x) st).2 I' ∧ hg_ft I' I)) := by
  refine hg_mc k_T_find (Nat.le_of_ble_eq_true rfl) ?_
  show hg_WP l E _ Y_T_find 0 0 0 [some (.ref (hg_ad E 13 0)), some (.int 0), some (.int 3), some (.int x), some (.int (nI dl)), none, none, none] [] (I, Lg, Rf, X) _
  refine hg_iload2 d_T_find_0 ?_
  refine hg_istore5 d_T_find_1 rfl ?_
  refine hg_iconst (v := 0) d_T_find_3 (by decide) ?_
  refine hg_istore6 d_T_find_4 rfl ?_
  refine hg_iload6 d_T_find_6 ?_
  refine hg_iconst (v := 3) d_T_find_8 (by decide) ?_
  refine hg_icmp_ge (tgt := 60) d_T_find_9 (by decide) (fun h_1 => absurd h_1 (by decide)) (fun h_1 => ?_)
  refine hg_iload5 d_T_find_12 ?_
  refine hg_if_lt (tgt := 60) d_T_find_14 (by decide) (fun h_2 => absurd h_2 (by decide)) (fun h_2 => ?_)
  refine hg_gets d_T_find_17 s_T_43 (fun s h => hx_bodiesZ h) ?_
  refine hg_iconst (v := 3) d_T_find_20 (by decide) ?_
  refine hg_iload5 d_T_find_21 ?_
  refine hg_imul d_T_find_23 ?_
  refine hg_eq1 (y := 9) (by decide) ?_
  refine hg_iload1 d_T_find_24 ?_
  refine hg_iadd d_T_find_25 ?_
  refine hg_eq1 (y := 9) (by decide) ?_
  refine hg_ialdT_n (j := 9) d_T_find_26 (fun s h => hx_bodiesT h) (by omega) (by decide) ?_
  refine hg_eq1 (y := 0) (by decide) ?_
  refine hg_istore7 d_T_find_27 rfl ?_
  refine hg_iload7 d_T_find_29 ?_
  refine hg_if_eq (tgt := 46) d_T_find_31 (by decide) (fun h_3 => ?_) (fun h_3 => absurd (by decide) h_3)
  refine hg_gets d_T_find_46 s_T_13 (fun s h => hx_aboveZ h) ?_
  refine hg_iload5 d_T_find_49 ?_
  refine hg_ialdT_n (j := 3) d_T_find_51 (fun s h => hx_aboveT h) (by omega) (by decide) ?_
  refine hg_eq1 (y := 0) (by decide) ?_
  refine hg_istore5 d_T_find_52 rfl ?_
  refine hg_iinc6 (v := 1) d_T_find_54 rfl (by decide) ?_
  refine hg_goto (tgt := 6) d_T_find_57 (by decide) ?_
  refine hg_iload6 d_T_find_6 ?_
  refine hg_iconst (v := 3) d_T_find_8 (by decide) ?_
  refine hg_icmp_ge (tgt := 60) d_T_find_9 (by decide) (fun h_4 => absurd h_4 (by decide)) (fun h_4 => ?_)
  refine hg_iload5 d_T_find_12 ?_
  refine hg_if_lt (tgt := 60) d_T_find_14 (by decide) (fun h_5 => absurd h_5 (by decide)) (fun h_5 => ?_)
  refine hg_gets d_T_find_17 s_T_43 (fun s h => hx_bodiesZ h) ?_
  refine hg_iconst (v := 3) d_T_find_20 (by decide) ?_
  refine hg_iload5 d_T_find_21 ?_
  refine hg_imul d_T_find_23 ?_
  refine hg_eq1 (y := 0) (by decide) ?_
  refine hg_iload1 d_T_find_24 ?_
  refine hg_iadd d_T_find_25 ?_
  refine hg_eq1 (y := 0) (by decide) ?_
  refine hg_ialdT_n (j := 0) d_T_find_26 (fun s h => hx_bodiesT h) (by omega) (by decide) ?_
  refine hg_eq1 (y := 10) (by decide) ?_
  refine hg_istore7 d_T_find_27 rfl ?_
  refine hg_iload7 d_T_find_29 ?_
  refine hg_if_eq (tgt := 46) d_T_find_31 (by decide) (fun h_6 => absurd h_6 (by decide)) (fun h_6 => ?_)
  refine hg_aload0 d_T_find_34 ?_
  refine hg_iload7 d_T_find_35 ?_
  refine hg_iload5 d_T_find_37 ?_
  refine hg_iload3 d_T_find_39 ?_
  refine hg_iload4 d_T_find_40 ?_
  refine hg_cVi d_T_find_42 l_T_46 rfl rfl (hX.lt (n := 1) ⟨by decide, by decide⟩ rfl (by omega)) rfl (Nat.le_of_ble_eq_true rfl) (m_run10 (x := x) (st := st) (dl := dl) hX hR hC hK hKk (by omega) (by omega)) rfl ?_
  rintro _ _ ⟨I1, rfl, rfl, hC1, hf1⟩
  refine hg_ireturn d_T_find_45 rfl rfl ?_
  exact ⟨I1, rfl, rfl, hC1, hf1⟩

theorem m_run30 {p K dl : Nat} {v x : Int32} {st : tk_S} (hX : hg_XS T X) (hR : hg_SR T Rf) (hC : tk_C st I) (hK : tk_K p v K I) (hKk : K ≤ 6) (hd : dl ≤ 36) (hr : st.1 ≤ 970) : hg_MC l E (d + 3) Y_T_run 0 0 [.ref (hg_ad E 13 0), .int 30, .int 2, .int x, .int (nI dl)] (I, Lg, Rf, X) (hg_i (fun r M' => ∃ I' : Nat → Nat → Nat → Int32, r = (tk_A p v 2 x st).1 ∧ M' = (I', Lg, Rf, X) ∧ tk_C (tk_A p v 2 x st).2 I' ∧ hg_ft I' I)) := by
  refine hg_mc k_T_run (Nat.le_of_ble_eq_true rfl) ?_
  show hg_WP l E _ Y_T_run 0 0 0 [some (.ref (hg_ad E 13 0)), some (.int 30), some (.int 2), some (.int x), some (.int (nI dl)), none, none] [] (I, Lg, Rf, X) _
  refine hg_iload4 d_T_run_0 ?_
  refine hg_bipush (v := 40) d_T_run_2 (by decide) ?_
  refine hg_icmp_ne (tgt := 9) d_T_run_4 (by decide) (fun h_1 => ?_) (fun h_1 => absurd (fun (e : nI dl = nI 40) => by have := (nI_eq (by omega) (by decide)).mp e; omega) h_1)
  refine hg_aload0 d_T_run_9 ?_
  refine hg_getI d_T_run_10 f_T_16 rfl rfl (hX.lt (n := 1) ⟨by decide, by decide⟩ rfl (by omega)) ?_
  refine hg_eq1 (y := nI st.1) (hC.1) ?_
  refine hg_bipush (v := 20) d_T_run_13 (by decide) ?_
  have K1 : ∀ I1 : Nat → Nat → Nat → Int32, tk_C (tk_r 30 st) I1 → hg_ft I1 I → hg_WP l E (d + 2) Y_T_run 0 0 38 [some (.ref (hg_ad E 13 0)), some (.int 30), some (.int 2), some (.int x), some (.int (nI dl)), none, none] [] (I1, Lg, Rf, X) (hg_i (fun r M' => ∃ I' : Nat → Nat → Nat → Int32, r = (tk_A p v 2 x st).1 ∧ M' = (I', Lg, Rf, X) ∧ tk_C (tk_A p v 2 x st).2 I' ∧ hg_ft I' I)) := by
    intro I1 hC1 hf1
    have hK1 := hK.ft hf1
    refine hg_gets d_T_run_38 s_T_13 (fun s h => hx_aboveZ h) ?_
    refine hg_iload2 d_T_run_41 ?_
    refine hg_ialdT_n (j := 2) d_T_run_42 (fun s h => hx_aboveT h) (by omega) (by decide) ?_
    refine hg_eq1 (y := 0) (by decide) ?_
    refine hg_istore5 d_T_run_43 rfl ?_
    refine hg_iload4 d_T_run_45 ?_
    refine hg_iconst (v := 1) d_T_run_47 (by decide) ?_
    refine hg_iadd d_T_run_48 ?_
    refine hg_eq1 (y := nI (dl + 1)) (nI_add _ _) ?_
    refine hg_istore6 d_T_run_49 rfl ?_
    refine hg_iload1 d_T_run_51 ?_
    refine hg_look (off := 154) (tgt := 206) d_T_run_52 (by decide) (by decide) (by decide) ?_
    refine hg_aload0 d_T_run_206 ?_
    refine hg_iconst (v := 0) d_T_run_207 (by decide) ?_
    refine hg_iload5 d_T_run_208 ?_
    refine hg_iload3 d_T_run_210 ?_
    refine hg_iconst (v := 3) d_T_run_211 (by decide) ?_
    refine hg_imul d_T_run_212 ?_
    refine hg_iload6 d_T_run_213 ?_
    have hr0 : (tk_r 30 st).1 ≤ 980 := by have e : (tk_r 30 st).1 = st.1 + 1 := rfl; omega
    refine hg_cVi d_T_run_215 l_T_39 rfl rfl (hX.lt (n := 1) ⟨by decide, by decide⟩ rfl (by omega)) rfl (Nat.le_of_ble_eq_true rfl) (m_find_A0 (x := x * 3) (st := tk_r 30 st) (dl := (dl + 1)) hX hR hC1 hK1 hKk (by omega) hr0) rfl ?_
    rintro _ _ ⟨I2, rfl, rfl, hC2, hf2⟩
    have hK2 := hK1.ft hf2
    have hg2 := hf2.tr hf1
    refine hg_ireturn d_T_run_218 rfl rfl ?_
    exact ⟨I2, rfl, rfl, hC2, hg2⟩
  refine hg_icmp_ge (tgt := 28) d_T_run_15 (by decide) (fun h20 => ?_) (fun h20 => ?_)
  · have h20 : ¬ st.1 < 20 := by have z := h20; rw [show (20 : Int32) = nI 20 from rfl, nI_leI (by decide) (by omega)] at z; omega
    refine hg_aload0 d_T_run_28 ?_
    refine hg_dup d_T_run_29 rfl ?_
    refine hg_getI d_T_run_30 f_T_16 rfl rfl (hX.lt (n := 1) ⟨by decide, by decide⟩ rfl (by omega)) ?_
    refine hg_eq1 (y := nI st.1) (hC.1) ?_
    refine hg_iconst (v := 1) d_T_run_33 (by decide) ?_
    refine hg_iadd d_T_run_34 ?_
    refine hg_eq1 (y := nI (st.1 + 1)) (nI_add _ _) ?_
    refine hg_putI d_T_run_35 f_T_16 rfl rfl (Or.inl rfl) rfl rfl (hX.lt (n := 1) ⟨by decide, by decide⟩ rfl (by omega)) ?_
    exact K1 _ (hC.r2 (b := 30) h20).1 (hC.r2 (b := 30) h20).2
  · have h20 : st.1 < 20 := by have z := h20; rw [show (20 : Int32) = nI 20 from rfl, nI_leI (by decide) (by omega)] at z; omega
    refine hg_aload0 d_T_run_18 ?_
    refine hg_getR d_T_run_19 f_T_9 rfl rfl (hX.lt (n := 1) ⟨by decide, by decide⟩ rfl (by omega)) hR.t0 ?_
    refine hg_aload0 d_T_run_22 ?_
    refine hg_getI d_T_run_23 f_T_16 rfl rfl (hX.lt (n := 1) ⟨by decide, by decide⟩ rfl (by omega)) ?_
    refine hg_eq1 (y := nI st.1) (hC.1) ?_
    refine hg_iload1 d_T_run_26 ?_
    refine hg_iast_n (j := st.1) d_T_run_27 rfl rfl (hX.lt (n := 1) ⟨by decide, by decide⟩ rfl (by omega)) (hX.jn (n := 20) (by decide) rfl (by omega)) ?_
    refine hg_aload0 d_T_run_28 ?_
    refine hg_dup d_T_run_29 rfl ?_
    refine hg_getI d_T_run_30 f_T_16 rfl rfl (hX.lt (n := 1) ⟨by decide, by decide⟩ rfl (by omega)) ?_
    refine hg_eq1 (y := I 13 0 1) (by simp [hg_u3]) ?_
    refine hg_eq1 (y := nI st.1) (hC.1) ?_
    refine hg_iconst (v := 1) d_T_run_33 (by decide) ?_
    refine hg_iadd d_T_run_34 ?_
    refine hg_eq1 (y := nI (st.1 + 1)) (nI_add _ _) ?_
    refine hg_putI d_T_run_35 f_T_16 rfl rfl (Or.inl rfl) rfl rfl (hX.lt (n := 1) ⟨by decide, by decide⟩ rfl (by omega)) ?_
    exact K1 _ (hC.r h20).1 (hC.r h20).2

theorem m_find_A2 {p K dl : Nat} {v x : Int32} {st : tk_S} (hX : hg_XS T X) (hR : hg_SR T Rf) (hC : tk_C st I) (hK : tk_K p v K I) (hKk : K ≤ 6) (hd : dl ≤ 35) (hr : st.1 ≤ 960) : hg_MC l E (d + 4) Y_T_find 0 0 [.ref (hg_ad E 13 0), .int 0, .int 2, .int x, .int (nI dl)] (I, Lg, Rf, X) (hg_i (fun r M' => ∃ I' : Nat → Nat → Nat → Int32, r = (tk_A p v 2 (x) st).1 ∧ M' = (I', Lg, Rf, X) ∧ tk_C (tk_A p v 2 (x) st).2 I' ∧ hg_ft I' I)) := by
  refine hg_mc k_T_find (Nat.le_of_ble_eq_true rfl) ?_
  show hg_WP l E _ Y_T_find 0 0 0 [some (.ref (hg_ad E 13 0)), some (.int 0), some (.int 2), some (.int x), some (.int (nI dl)), none, none, none] [] (I, Lg, Rf, X) _
  refine hg_iload2 d_T_find_0 ?_
  refine hg_istore5 d_T_find_1 rfl ?_
  refine hg_iconst (v := 0) d_T_find_3 (by decide) ?_
  refine hg_istore6 d_T_find_4 rfl ?_
  refine hg_iload6 d_T_find_6 ?_
  refine hg_iconst (v := 3) d_T_find_8 (by decide) ?_
  refine hg_icmp_ge (tgt := 60) d_T_find_9 (by decide) (fun h_1 => absurd h_1 (by decide)) (fun h_1 => ?_)
  refine hg_iload5 d_T_find_12 ?_
  refine hg_if_lt (tgt := 60) d_T_find_14 (by decide) (fun h_2 => absurd h_2 (by decide)) (fun h_2 => ?_)
  refine hg_gets d_T_find_17 s_T_43 (fun s h => hx_bodiesZ h) ?_
  refine hg_iconst (v := 3) d_T_find_20 (by decide) ?_
  refine hg_iload5 d_T_find_21 ?_
  refine hg_imul d_T_find_23 ?_
  refine hg_eq1 (y := 6) (by decide) ?_
  refine hg_iload1 d_T_find_24 ?_
  refine hg_iadd d_T_find_25 ?_
  refine hg_eq1 (y := 6) (by decide) ?_
  refine hg_ialdT_n (j := 6) d_T_find_26 (fun s h => hx_bodiesT h) (by omega) (by decide) ?_
  refine hg_eq1 (y := 30) (by decide) ?_
  refine hg_istore7 d_T_find_27 rfl ?_
  refine hg_iload7 d_T_find_29 ?_
  refine hg_if_eq (tgt := 46) d_T_find_31 (by decide) (fun h_3 => absurd h_3 (by decide)) (fun h_3 => ?_)
  refine hg_aload0 d_T_find_34 ?_
  refine hg_iload7 d_T_find_35 ?_
  refine hg_iload5 d_T_find_37 ?_
  refine hg_iload3 d_T_find_39 ?_
  refine hg_iload4 d_T_find_40 ?_
  refine hg_cVi d_T_find_42 l_T_46 rfl rfl (hX.lt (n := 1) ⟨by decide, by decide⟩ rfl (by omega)) rfl (Nat.le_of_ble_eq_true rfl) (m_run30 (x := x) (st := st) (dl := dl) hX hR hC hK hKk (by omega) (by omega)) rfl ?_
  rintro _ _ ⟨I1, rfl, rfl, hC1, hf1⟩
  refine hg_ireturn d_T_find_45 rfl rfl ?_
  exact ⟨I1, rfl, rfl, hC1, hf1⟩

theorem m_find_A5 {p K dl : Nat} {v x : Int32} {st : tk_S} (hX : hg_XS T X) (hR : hg_SR T Rf) (hC : tk_C st I) (hK : tk_K p v K I) (hKk : K ≤ 6) (hd : dl ≤ 35) (hr : st.1 ≤ 960) : hg_MC l E (d + 4) Y_T_find 0 0 [.ref (hg_ad E 13 0), .int 0, .int 5, .int x, .int (nI dl)] (I, Lg, Rf, X) (hg_i (fun r M' => ∃ I' : Nat → Nat → Nat → Int32, r = (tk_A p v 5 (x) st).1 ∧ M' = (I', Lg, Rf, X) ∧ tk_C (tk_A p v 5 (x) st).2 I' ∧ hg_ft I' I)) := by
  refine hg_mc k_T_find (Nat.le_of_ble_eq_true rfl) ?_
  show hg_WP l E _ Y_T_find 0 0 0 [some (.ref (hg_ad E 13 0)), some (.int 0), some (.int 5), some (.int x), some (.int (nI dl)), none, none, none] [] (I, Lg, Rf, X) _
  refine hg_iload2 d_T_find_0 ?_
  refine hg_istore5 d_T_find_1 rfl ?_
  refine hg_iconst (v := 0) d_T_find_3 (by decide) ?_
  refine hg_istore6 d_T_find_4 rfl ?_
  refine hg_iload6 d_T_find_6 ?_
  refine hg_iconst (v := 3) d_T_find_8 (by decide) ?_
  refine hg_icmp_ge (tgt := 60) d_T_find_9 (by decide) (fun h_1 => absurd h_1 (by decide)) (fun h_1 => ?_)
  refine hg_iload5 d_T_find_12 ?_
  refine hg_if_lt (tgt := 60) d_T_find_14 (by decide) (fun h_2 => absurd h_2 (by decide)) (fun h_2 => ?_)
  refine hg_gets d_T_find_17 s_T_43 (fun s h => hx_bodiesZ h) ?_
  refine hg_iconst (v := 3) d_T_find_20 (by decide) ?_
  refine hg_iload5 d_T_find_21 ?_
  refine hg_imul d_T_find_23 ?_
  refine hg_eq1 (y := 15) (by decide) ?_
  refine hg_iload1 d_T_find_24 ?_
  refine hg_iadd d_T_find_25 ?_
  refine hg_eq1 (y := 15) (by decide) ?_
  refine hg_ialdT_n (j := 15) d_T_find_26 (fun s h => hx_bodiesT h) (by omega) (by decide) ?_
  refine hg_eq1 (y := 0) (by decide) ?_
  refine hg_istore7 d_T_find_27 rfl ?_
  refine hg_iload7 d_T_find_29 ?_
  refine hg_if_eq (tgt := 46) d_T_find_31 (by decide) (fun h_3 => ?_) (fun h_3 => absurd (by decide) h_3)
  refine hg_gets d_T_find_46 s_T_13 (fun s h => hx_aboveZ h) ?_
  refine hg_iload5 d_T_find_49 ?_
  refine hg_ialdT_n (j := 5) d_T_find_51 (fun s h => hx_aboveT h) (by omega) (by decide) ?_
  refine hg_eq1 (y := 2) (by decide) ?_
  refine hg_istore5 d_T_find_52 rfl ?_
  refine hg_iinc6 (v := 1) d_T_find_54 rfl (by decide) ?_
  refine hg_goto (tgt := 6) d_T_find_57 (by decide) ?_
  refine hg_iload6 d_T_find_6 ?_
  refine hg_iconst (v := 3) d_T_find_8 (by decide) ?_
  refine hg_icmp_ge (tgt := 60) d_T_find_9 (by decide) (fun h_4 => absurd h_4 (by decide)) (fun h_4 => ?_)
  refine hg_iload5 d_T_find_12 ?_
  refine hg_if_lt (tgt := 60) d_T_find_14 (by decide) (fun h_5 => absurd h_5 (by decide)) (fun h_5 => ?_)
  refine hg_gets d_T_find_17 s_T_43 (fun s h => hx_bodiesZ h) ?_
  refine hg_iconst (v := 3) d_T_find_20 (by decide) ?_
  refine hg_iload5 d_T_find_21 ?_
  refine hg_imul d_T_find_23 ?_
  refine hg_eq1 (y := 6) (by decide) ?_
  refine hg_iload1 d_T_find_24 ?_
  refine hg_iadd d_T_find_25 ?_
  refine hg_eq1 (y := 6) (by decide) ?_
  refine hg_ialdT_n (j := 6) d_T_find_26 (fun s h => hx_bodiesT h) (by omega) (by decide) ?_
  refine hg_eq1 (y := 30) (by decide) ?_
  refine hg_istore7 d_T_find_27 rfl ?_
  refine hg_iload7 d_T_find_29 ?_
  refine hg_if_eq (tgt := 46) d_T_find_31 (by decide) (fun h_6 => absurd h_6 (by decide)) (fun h_6 => ?_)
  refine hg_aload0 d_T_find_34 ?_
  refine hg_iload7 d_T_find_35 ?_
  refine hg_iload5 d_T_find_37 ?_
  refine hg_iload3 d_T_find_39 ?_
  refine hg_iload4 d_T_find_40 ?_
  refine hg_cVi d_T_find_42 l_T_46 rfl rfl (hX.lt (n := 1) ⟨by decide, by decide⟩ rfl (by omega)) rfl (Nat.le_of_ble_eq_true rfl) (m_run30 (x := x) (st := st) (dl := dl) hX hR hC hK hKk (by omega) (by omega)) rfl ?_
  rintro _ _ ⟨I1, rfl, rfl, hC1, hf1⟩
  refine hg_ireturn d_T_find_45 rfl rfl ?_
  exact ⟨I1, rfl, rfl, hC1, hf1⟩

theorem m_run50 {p K dl : Nat} {v x : Int32} {st : tk_S} (hX : hg_XS T X) (hR : hg_SR T Rf) (hC : tk_C st I) (hK : tk_K p v K I) (hKk : K ≤ 6) (hd : dl ≤ 36) (hr : st.1 ≤ 970) : hg_MC l E (d + 3) Y_T_run 0 0 [.ref (hg_ad E 13 0), .int 50, .int 4, .int x, .int (nI dl)] (I, Lg, Rf, X) (hg_i (fun r M' => ∃ I' : Nat → Nat → Nat → Int32, r = (tk_A p v 4 x st).1 ∧ M' = (I', Lg, Rf, X) ∧ tk_C (tk_A p v 4 x st).2 I' ∧ hg_ft I' I)) := by
  refine hg_mc k_T_run (Nat.le_of_ble_eq_true rfl) ?_
  show hg_WP l E _ Y_T_run 0 0 0 [some (.ref (hg_ad E 13 0)), some (.int 50), some (.int 4), some (.int x), some (.int (nI dl)), none, none] [] (I, Lg, Rf, X) _
  refine hg_iload4 d_T_run_0 ?_
  refine hg_bipush (v := 40) d_T_run_2 (by decide) ?_
  refine hg_icmp_ne (tgt := 9) d_T_run_4 (by decide) (fun h_1 => ?_) (fun h_1 => absurd (fun (e : nI dl = nI 40) => by have := (nI_eq (by omega) (by decide)).mp e; omega) h_1)
  refine hg_aload0 d_T_run_9 ?_
  refine hg_getI d_T_run_10 f_T_16 rfl rfl (hX.lt (n := 1) ⟨by decide, by decide⟩ rfl (by omega)) ?_
  refine hg_eq1 (y := nI st.1) (hC.1) ?_
  refine hg_bipush (v := 20) d_T_run_13 (by decide) ?_
  have K1 : ∀ I1 : Nat → Nat → Nat → Int32, tk_C (tk_r 50 st) I1 → hg_ft I1 I → hg_WP l E (d + 2) Y_T_run 0 0 38 [some (.ref (hg_ad E 13 0)), some (.int 50), some (.int 4), some (.int x), some (.int (nI dl)), none, none] [] (I1, Lg, Rf, X) (hg_i (fun r M' => ∃ I' : Nat → Nat → Nat → Int32, r = (tk_A p v 4 x st).1 ∧ M' = (I', Lg, Rf, X) ∧ tk_C (tk_A p v 4 x st).2 I' ∧ hg_ft I' I)) := by
    intro I1 hC1 hf1
    have hK1 := hK.ft hf1
    refine hg_gets d_T_run_38 s_T_13 (fun s h => hx_aboveZ h) ?_
    refine hg_iload2 d_T_run_41 ?_
    refine hg_ialdT_n (j := 4) d_T_run_42 (fun s h => hx_aboveT h) (by omega) (by decide) ?_
    refine hg_eq1 (y := 1) (by decide) ?_
    refine hg_istore5 d_T_run_43 rfl ?_
    refine hg_iload4 d_T_run_45 ?_
    refine hg_iconst (v := 1) d_T_run_47 (by decide) ?_
    refine hg_iadd d_T_run_48 ?_
    refine hg_eq1 (y := nI (dl + 1)) (nI_add _ _) ?_
    refine hg_istore6 d_T_run_49 rfl ?_
    refine hg_iload1 d_T_run_51 ?_
    refine hg_look (off := 191) (tgt := 243) d_T_run_52 (by decide) (by decide) (by decide) ?_
    refine hg_aload0 d_T_run_243 ?_
    refine hg_iconst (v := 0) d_T_run_244 (by decide) ?_
    refine hg_iload5 d_T_run_245 ?_
    refine hg_iload3 d_T_run_247 ?_
    refine hg_iload6 d_T_run_248 ?_
    have hr0 : (tk_r 50 st).1 ≤ 980 := by have e : (tk_r 50 st).1 = st.1 + 1 := rfl; omega
    refine hg_cVi d_T_run_250 l_T_39 rfl rfl (hX.lt (n := 1) ⟨by decide, by decide⟩ rfl (by omega)) rfl (Nat.le_of_ble_eq_true rfl) (m_find_A1 (x := x) (st := tk_r 50 st) (dl := (dl + 1)) hX hR hC1 hK1 hKk (by omega) hr0) rfl ?_
    rintro _ _ ⟨I2, rfl, rfl, hC2, hf2⟩
    have hK2 := hK1.ft hf2
    have hg2 := hf2.tr hf1
    refine hg_ineg d_T_run_253 ?_
    refine hg_ireturn d_T_run_254 rfl rfl ?_
    exact ⟨I2, rfl, rfl, hC2, hg2⟩
  refine hg_icmp_ge (tgt := 28) d_T_run_15 (by decide) (fun h20 => ?_) (fun h20 => ?_)
  · have h20 : ¬ st.1 < 20 := by have z := h20; rw [show (20 : Int32) = nI 20 from rfl, nI_leI (by decide) (by omega)] at z; omega
    refine hg_aload0 d_T_run_28 ?_
    refine hg_dup d_T_run_29 rfl ?_
    refine hg_getI d_T_run_30 f_T_16 rfl rfl (hX.lt (n := 1) ⟨by decide, by decide⟩ rfl (by omega)) ?_
    refine hg_eq1 (y := nI st.1) (hC.1) ?_
    refine hg_iconst (v := 1) d_T_run_33 (by decide) ?_
    refine hg_iadd d_T_run_34 ?_
    refine hg_eq1 (y := nI (st.1 + 1)) (nI_add _ _) ?_
    refine hg_putI d_T_run_35 f_T_16 rfl rfl (Or.inl rfl) rfl rfl (hX.lt (n := 1) ⟨by decide, by decide⟩ rfl (by omega)) ?_
    exact K1 _ (hC.r2 (b := 50) h20).1 (hC.r2 (b := 50) h20).2
  · have h20 : st.1 < 20 := by have z := h20; rw [show (20 : Int32) = nI 20 from rfl, nI_leI (by decide) (by omega)] at z; omega
    refine hg_aload0 d_T_run_18 ?_
    refine hg_getR d_T_run_19 f_T_9 rfl rfl (hX.lt (n := 1) ⟨by decide, by decide⟩ rfl (by omega)) hR.t0 ?_
    refine hg_aload0 d_T_run_22 ?_
    refine hg_getI d_T_run_23 f_T_16 rfl rfl (hX.lt (n := 1) ⟨by decide, by decide⟩ rfl (by omega)) ?_
    refine hg_eq1 (y := nI st.1) (hC.1) ?_
    refine hg_iload1 d_T_run_26 ?_
    refine hg_iast_n (j := st.1) d_T_run_27 rfl rfl (hX.lt (n := 1) ⟨by decide, by decide⟩ rfl (by omega)) (hX.jn (n := 20) (by decide) rfl (by omega)) ?_
    refine hg_aload0 d_T_run_28 ?_
    refine hg_dup d_T_run_29 rfl ?_
    refine hg_getI d_T_run_30 f_T_16 rfl rfl (hX.lt (n := 1) ⟨by decide, by decide⟩ rfl (by omega)) ?_
    refine hg_eq1 (y := I 13 0 1) (by simp [hg_u3]) ?_
    refine hg_eq1 (y := nI st.1) (hC.1) ?_
    refine hg_iconst (v := 1) d_T_run_33 (by decide) ?_
    refine hg_iadd d_T_run_34 ?_
    refine hg_eq1 (y := nI (st.1 + 1)) (nI_add _ _) ?_
    refine hg_putI d_T_run_35 f_T_16 rfl rfl (Or.inl rfl) rfl rfl (hX.lt (n := 1) ⟨by decide, by decide⟩ rfl (by omega)) ?_
    exact K1 _ (hC.r h20).1 (hC.r h20).2

theorem m_find_A4 {p K dl : Nat} {v x : Int32} {st : tk_S} (hX : hg_XS T X) (hR : hg_SR T Rf) (hC : tk_C st I) (hK : tk_K p v K I) (hKk : K ≤ 6) (hd : dl ≤ 35) (hr : st.1 ≤ 960) : hg_MC l E (d + 4) Y_T_find 0 0 [.ref (hg_ad E 13 0), .int 0, .int 4, .int x, .int (nI dl)] (I, Lg, Rf, X) (hg_i (fun r M' => ∃ I' : Nat → Nat → Nat → Int32, r = (tk_A p v 4 (x) st).1 ∧ M' = (I', Lg, Rf, X) ∧ tk_C (tk_A p v 4 (x) st).2 I' ∧ hg_ft I' I)) := by
  refine hg_mc k_T_find (Nat.le_of_ble_eq_true rfl) ?_
  show hg_WP l E _ Y_T_find 0 0 0 [some (.ref (hg_ad E 13 0)), some (.int 0), some (.int 4), some (.int x), some (.int (nI dl)), none, none, none] [] (I, Lg, Rf, X) _
  refine hg_iload2 d_T_find_0 ?_
  refine hg_istore5 d_T_find_1 rfl ?_
  refine hg_iconst (v := 0) d_T_find_3 (by decide) ?_
  refine hg_istore6 d_T_find_4 rfl ?_
  refine hg_iload6 d_T_find_6 ?_
  refine hg_iconst (v := 3) d_T_find_8 (by decide) ?_
  refine hg_icmp_ge (tgt := 60) d_T_find_9 (by decide) (fun h_1 => absurd h_1 (by decide)) (fun h_1 => ?_)
  refine hg_iload5 d_T_find_12 ?_
  refine hg_if_lt (tgt := 60) d_T_find_14 (by decide) (fun h_2 => absurd h_2 (by decide)) (fun h_2 => ?_)
  refine hg_gets d_T_find_17 s_T_43 (fun s h => hx_bodiesZ h) ?_
  refine hg_iconst (v := 3) d_T_find_20 (by decide) ?_
  refine hg_iload5 d_T_find_21 ?_
  refine hg_imul d_T_find_23 ?_
  refine hg_eq1 (y := 12) (by decide) ?_
  refine hg_iload1 d_T_find_24 ?_
  refine hg_iadd d_T_find_25 ?_
  refine hg_eq1 (y := 12) (by decide) ?_
  refine hg_ialdT_n (j := 12) d_T_find_26 (fun s h => hx_bodiesT h) (by omega) (by decide) ?_
  refine hg_eq1 (y := 50) (by decide) ?_
  refine hg_istore7 d_T_find_27 rfl ?_
  refine hg_iload7 d_T_find_29 ?_
  refine hg_if_eq (tgt := 46) d_T_find_31 (by decide) (fun h_3 => absurd h_3 (by decide)) (fun h_3 => ?_)
  refine hg_aload0 d_T_find_34 ?_
  refine hg_iload7 d_T_find_35 ?_
  refine hg_iload5 d_T_find_37 ?_
  refine hg_iload3 d_T_find_39 ?_
  refine hg_iload4 d_T_find_40 ?_
  refine hg_cVi d_T_find_42 l_T_46 rfl rfl (hX.lt (n := 1) ⟨by decide, by decide⟩ rfl (by omega)) rfl (Nat.le_of_ble_eq_true rfl) (m_run50 (x := x) (st := st) (dl := dl) hX hR hC hK hKk (by omega) (by omega)) rfl ?_
  rintro _ _ ⟨I1, rfl, rfl, hC1, hf1⟩
  refine hg_ireturn d_T_find_45 rfl rfl ?_
  exact ⟨I1, rfl, rfl, hC1, hf1⟩

theorem m_run71 {p K dl : Nat} {v x : Int32} {st : tk_S} (hX : hg_XS T X) (hR : hg_SR T Rf) (hC : tk_C st I) (hK : tk_K p v K I) (hKk : K ≤ 6) (hd : dl ≤ 36) (hr : st.1 ≤ 970) : hg_MC l E (d + 3) Y_T_run 0 0 [.ref (hg_ad E 13 0), .int 71, .int 6, .int x, .int (nI dl)] (I, Lg, Rf, X) (hg_i (fun r M' => ∃ I' : Nat → Nat → Nat → Int32, r = (tk_A p v 6 x st).1 ∧ M' = (I', Lg, Rf, X) ∧ tk_C (tk_A p v 6 x st).2 I' ∧ hg_ft I' I)) := by
  refine hg_mc k_T_run (Nat.le_of_ble_eq_true rfl) ?_
  show hg_WP l E _ Y_T_run 0 0 0 [some (.ref (hg_ad E 13 0)), some (.int 71), some (.int 6), some (.int x), some (.int (nI dl)), none, none] [] (I, Lg, Rf, X) _
  refine hg_iload4 d_T_run_0 ?_
  refine hg_bipush (v := 40) d_T_run_2 (by decide) ?_
  refine hg_icmp_ne (tgt := 9) d_T_run_4 (by decide) (fun h_1 => ?_) (fun h_1 => absurd (fun (e : nI dl = nI 40) => by have := (nI_eq (by omega) (by decide)).mp e; omega) h_1)
  refine hg_aload0 d_T_run_9 ?_
  refine hg_getI d_T_run_10 f_T_16 rfl rfl (hX.lt (n := 1) ⟨by decide, by decide⟩ rfl (by omega)) ?_
  refine hg_eq1 (y := nI st.1) (hC.1) ?_
  refine hg_bipush (v := 20) d_T_run_13 (by decide) ?_
  have K1 : ∀ I1 : Nat → Nat → Nat → Int32, tk_C (tk_r 71 st) I1 → hg_ft I1 I → hg_WP l E (d + 2) Y_T_run 0 0 38 [some (.ref (hg_ad E 13 0)), some (.int 71), some (.int 6), some (.int x), some (.int (nI dl)), none, none] [] (I1, Lg, Rf, X) (hg_i (fun r M' => ∃ I' : Nat → Nat → Nat → Int32, r = (tk_A p v 6 x st).1 ∧ M' = (I', Lg, Rf, X) ∧ tk_C (tk_A p v 6 x st).2 I' ∧ hg_ft I' I)) := by
    intro I1 hC1 hf1
    have hK1 := hK.ft hf1
    refine hg_gets d_T_run_38 s_T_13 (fun s h => hx_aboveZ h) ?_
    refine hg_iload2 d_T_run_41 ?_
    refine hg_ialdT_n (j := 6) d_T_run_42 (fun s h => hx_aboveT h) (by omega) (by decide) ?_
    refine hg_eq1 (y := 3) (by decide) ?_
    refine hg_istore5 d_T_run_43 rfl ?_
    refine hg_iload4 d_T_run_45 ?_
    refine hg_iconst (v := 1) d_T_run_47 (by decide) ?_
    refine hg_iadd d_T_run_48 ?_
    refine hg_eq1 (y := nI (dl + 1)) (nI_add _ _) ?_
    refine hg_istore6 d_T_run_49 rfl ?_
    refine hg_iload1 d_T_run_51 ?_
    refine hg_look (off := 254) (tgt := 306) d_T_run_52 (by decide) (by decide) (by decide) ?_
    refine hg_aload0 d_T_run_306 ?_
    refine hg_iconst (v := 0) d_T_run_307 (by decide) ?_
    refine hg_iload5 d_T_run_308 ?_
    refine hg_iload3 d_T_run_310 ?_
    refine hg_iload6 d_T_run_311 ?_
    have hr0 : (tk_r 71 st).1 ≤ 980 := by have e : (tk_r 71 st).1 = st.1 + 1 := rfl; omega
    refine hg_cVi d_T_run_313 l_T_39 rfl rfl (hX.lt (n := 1) ⟨by decide, by decide⟩ rfl (by omega)) rfl (Nat.le_of_ble_eq_true rfl) (m_find_A3 (x := x) (st := tk_r 71 st) (dl := (dl + 1)) hX hR hC1 hK1 hKk (by omega) hr0) rfl ?_
    rintro _ _ ⟨I2, rfl, rfl, hC2, hf2⟩
    have hK2 := hK1.ft hf2
    have hg2 := hf2.tr hf1
    refine hg_aload0 d_T_run_316 ?_
    refine hg_getI d_T_run_317 f_T_38 rfl rfl (hX.lt (n := 1) ⟨by decide, by decide⟩ rfl (by omega)) ?_
    refine hg_eq1 (y := v) (hK2.2.2) ?_
    refine hg_ixor d_T_run_320 ?_
    refine hg_ireturn d_T_run_321 rfl rfl ?_
    exact ⟨I2, rfl, rfl, hC2, hg2⟩
  refine hg_icmp_ge (tgt := 28) d_T_run_15 (by decide) (fun h20 => ?_) (fun h20 => ?_)
  · have h20 : ¬ st.1 < 20 := by have z := h20; rw [show (20 : Int32) = nI 20 from rfl, nI_leI (by decide) (by omega)] at z; omega
    refine hg_aload0 d_T_run_28 ?_
    refine hg_dup d_T_run_29 rfl ?_
    refine hg_getI d_T_run_30 f_T_16 rfl rfl (hX.lt (n := 1) ⟨by decide, by decide⟩ rfl (by omega)) ?_
    refine hg_eq1 (y := nI st.1) (hC.1) ?_
    refine hg_iconst (v := 1) d_T_run_33 (by decide) ?_
    refine hg_iadd d_T_run_34 ?_
    refine hg_eq1 (y := nI (st.1 + 1)) (nI_add _ _) ?_
    refine hg_putI d_T_run_35 f_T_16 rfl rfl (Or.inl rfl) rfl rfl (hX.lt (n := 1) ⟨by decide, by decide⟩ rfl (by omega)) ?_
    exact K1 _ (hC.r2 (b := 71) h20).1 (hC.r2 (b := 71) h20).2
  · have h20 : st.1 < 20 := by have z := h20; rw [show (20 : Int32) = nI 20 from rfl, nI_leI (by decide) (by omega)] at z; omega
    refine hg_aload0 d_T_run_18 ?_
    refine hg_getR d_T_run_19 f_T_9 rfl rfl (hX.lt (n := 1) ⟨by decide, by decide⟩ rfl (by omega)) hR.t0 ?_
    refine hg_aload0 d_T_run_22 ?_
    refine hg_getI d_T_run_23 f_T_16 rfl rfl (hX.lt (n := 1) ⟨by decide, by decide⟩ rfl (by omega)) ?_
    refine hg_eq1 (y := nI st.1) (hC.1) ?_
    refine hg_iload1 d_T_run_26 ?_
    refine hg_iast_n (j := st.1) d_T_run_27 rfl rfl (hX.lt (n := 1) ⟨by decide, by decide⟩ rfl (by omega)) (hX.jn (n := 20) (by decide) rfl (by omega)) ?_
    refine hg_aload0 d_T_run_28 ?_
    refine hg_dup d_T_run_29 rfl ?_
    refine hg_getI d_T_run_30 f_T_16 rfl rfl (hX.lt (n := 1) ⟨by decide, by decide⟩ rfl (by omega)) ?_
    refine hg_eq1 (y := I 13 0 1) (by simp [hg_u3]) ?_
    refine hg_eq1 (y := nI st.1) (hC.1) ?_
    refine hg_iconst (v := 1) d_T_run_33 (by decide) ?_
    refine hg_iadd d_T_run_34 ?_
    refine hg_eq1 (y := nI (st.1 + 1)) (nI_add _ _) ?_
    refine hg_putI d_T_run_35 f_T_16 rfl rfl (Or.inl rfl) rfl rfl (hX.lt (n := 1) ⟨by decide, by decide⟩ rfl (by omega)) ?_
    exact K1 _ (hC.r h20).1 (hC.r h20).2

theorem m_find_A6 {p K dl : Nat} {v x : Int32} {st : tk_S} (hX : hg_XS T X) (hR : hg_SR T Rf) (hC : tk_C st I) (hK : tk_K p v K I) (hKk : K ≤ 6) (hd : dl ≤ 35) (hr : st.1 ≤ 960) : hg_MC l E (d + 4) Y_T_find 0 0 [.ref (hg_ad E 13 0), .int 0, .int 6, .int x, .int (nI dl)] (I, Lg, Rf, X) (hg_i (fun r M' => ∃ I' : Nat → Nat → Nat → Int32, r = (tk_A p v 6 (x) st).1 ∧ M' = (I', Lg, Rf, X) ∧ tk_C (tk_A p v 6 (x) st).2 I' ∧ hg_ft I' I)) := by
  refine hg_mc k_T_find (Nat.le_of_ble_eq_true rfl) ?_
  show hg_WP l E _ Y_T_find 0 0 0 [some (.ref (hg_ad E 13 0)), some (.int 0), some (.int 6), some (.int x), some (.int (nI dl)), none, none, none] [] (I, Lg, Rf, X) _
  refine hg_iload2 d_T_find_0 ?_
  refine hg_istore5 d_T_find_1 rfl ?_
  refine hg_iconst (v := 0) d_T_find_3 (by decide) ?_
  refine hg_istore6 d_T_find_4 rfl ?_
  refine hg_iload6 d_T_find_6 ?_
  refine hg_iconst (v := 3) d_T_find_8 (by decide) ?_
  refine hg_icmp_ge (tgt := 60) d_T_find_9 (by decide) (fun h_1 => absurd h_1 (by decide)) (fun h_1 => ?_)
  refine hg_iload5 d_T_find_12 ?_
  refine hg_if_lt (tgt := 60) d_T_find_14 (by decide) (fun h_2 => absurd h_2 (by decide)) (fun h_2 => ?_)
  refine hg_gets d_T_find_17 s_T_43 (fun s h => hx_bodiesZ h) ?_
  refine hg_iconst (v := 3) d_T_find_20 (by decide) ?_
  refine hg_iload5 d_T_find_21 ?_
  refine hg_imul d_T_find_23 ?_
  refine hg_eq1 (y := 18) (by decide) ?_
  refine hg_iload1 d_T_find_24 ?_
  refine hg_iadd d_T_find_25 ?_
  refine hg_eq1 (y := 18) (by decide) ?_
  refine hg_ialdT_n (j := 18) d_T_find_26 (fun s h => hx_bodiesT h) (by omega) (by decide) ?_
  refine hg_eq1 (y := 71) (by decide) ?_
  refine hg_istore7 d_T_find_27 rfl ?_
  refine hg_iload7 d_T_find_29 ?_
  refine hg_if_eq (tgt := 46) d_T_find_31 (by decide) (fun h_3 => absurd h_3 (by decide)) (fun h_3 => ?_)
  refine hg_aload0 d_T_find_34 ?_
  refine hg_iload7 d_T_find_35 ?_
  refine hg_iload5 d_T_find_37 ?_
  refine hg_iload3 d_T_find_39 ?_
  refine hg_iload4 d_T_find_40 ?_
  refine hg_cVi d_T_find_42 l_T_46 rfl rfl (hX.lt (n := 1) ⟨by decide, by decide⟩ rfl (by omega)) rfl (Nat.le_of_ble_eq_true rfl) (m_run71 (x := x) (st := st) (dl := dl) hX hR hC hK hKk (by omega) (by omega)) rfl ?_
  rintro _ _ ⟨I1, rfl, rfl, hC1, hf1⟩
  refine hg_ireturn d_T_find_45 rfl rfl ?_
  exact ⟨I1, rfl, rfl, hC1, hf1⟩

theorem m_find_A {k p K dl : Nat} {v x : Int32} {st : tk_S} (hX : hg_XS T X) (hR : hg_SR T Rf) (hC : tk_C st I) (hK : tk_K p v K I) (hk : k ≤ 6) (hKk : K ≤ 6) (hd : dl ≤ 35) (hr : st.1 ≤ 960) : hg_MC l E (d + 4) Y_T_find 0 0 [.ref (hg_ad E 13 0), .int 0, .int (nI k), .int x, .int (nI dl)] (I, Lg, Rf, X) (hg_i (fun r M' => ∃ I' : Nat → Nat → Nat → Int32, r = (tk_A p v k (x) st).1 ∧ M' = (I', Lg, Rf, X) ∧ tk_C (tk_A p v k (x) st).2 I' ∧ hg_ft I' I)) := by
  have h7 : k = 0 ∨ k = 1 ∨ k = 2 ∨ k = 3 ∨ k = 4 ∨ k = 5 ∨ k = 6 := by omega
  rcases h7 with rfl | rfl | rfl | rfl | rfl | rfl | rfl
  · exact m_find_A0 (d := d + 2) hX hR hC hK hKk (by omega) (by omega)
  · exact m_find_A1 (d := d + 2) hX hR hC hK hKk (by omega) (by omega)
  · exact m_find_A2 (d := d + 0) hX hR hC hK hKk (by omega) (by omega)
  · exact m_find_A3 (d := d + 2) hX hR hC hK hKk (by omega) (by omega)
  · exact m_find_A4 (d := d + 0) hX hR hC hK hKk (by omega) (by omega)
  · exact m_find_A5 (d := d + 0) hX hR hC hK hKk (by omega) (by omega)
  · exact m_find_A6 (d := d + 0) hX hR hC hK hKk (by omega) (by omega)
theorem m_run11 {p K dl : Nat} {v x : Int32} {st : tk_S} (hX : hg_XS T X) (hR : hg_SR T Rf) (hC : tk_C st I) (hK : tk_K p v K I) (hKk : K ≤ 6) (hd : dl ≤ 34) (hr : st.1 ≤ 950) : hg_MC l E (d + 5) Y_T_run 0 0 [.ref (hg_ad E 13 0), .int 11, .int 0, .int x, .int (nI dl)] (I, Lg, Rf, X) (hg_i (fun r M' => ∃ I' : Nat → Nat → Nat → Int32, r = (tk_T0 p v K x st).1 ∧ M' = (I', Lg, Rf, X) ∧ tk_C (tk_T0 p v K x st).2 I' ∧ hg_ft I' I)) := by
  refine hg_mc k_T_run (Nat.le_of_ble_eq_true rfl) ?_
  show hg_WP l E _ Y_T_run 0 0 0 [some (.ref (hg_ad E 13 0)), some (.int 11), some (.int 0), some (.int x), some (.int (nI dl)), none, none] [] (I, Lg, Rf, X) _
  refine hg_iload4 d_T_run_0 ?_
  refine hg_bipush (v := 40) d_T_run_2 (by decide) ?_
  refine hg_icmp_ne (tgt := 9) d_T_run_4 (by decide) (fun h_1 => ?_) (fun h_1 => absurd (fun (e : nI dl = nI 40) => by have := (nI_eq (by omega) (by decide)).mp e; omega) h_1)
  refine hg_aload0 d_T_run_9 ?_
  refine hg_getI d_T_run_10 f_T_16 rfl rfl (hX.lt (n := 1) ⟨by decide, by decide⟩ rfl (by omega)) ?_
  refine hg_eq1 (y := nI st.1) (hC.1) ?_
  refine hg_bipush (v := 20) d_T_run_13 (by decide) ?_
  have K1 : ∀ I1 : Nat → Nat → Nat → Int32, tk_C (tk_r 11 st) I1 → hg_ft I1 I → hg_WP l E (d + 4) Y_T_run 0 0 38 [some (.ref (hg_ad E 13 0)), some (.int 11), some (.int 0), some (.int x), some (.int (nI dl)), none, none] [] (I1, Lg, Rf, X) (hg_i (fun r M' => ∃ I' : Nat → Nat → Nat → Int32, r = (tk_T0 p v K x st).1 ∧ M' = (I', Lg, Rf, X) ∧ tk_C (tk_T0 p v K x st).2 I' ∧ hg_ft I' I)) := by
    intro I1 hC1 hf1
    have hK1 := hK.ft hf1
    refine hg_gets d_T_run_38 s_T_13 (fun s h => hx_aboveZ h) ?_
    refine hg_iload2 d_T_run_41 ?_
    refine hg_ialdT_n (j := 0) d_T_run_42 (fun s h => hx_aboveT h) (by omega) (by decide) ?_
    refine hg_eq1 (y := -1) (by decide) ?_
    refine hg_istore5 d_T_run_43 rfl ?_
    refine hg_iload4 d_T_run_45 ?_
    refine hg_iconst (v := 1) d_T_run_47 (by decide) ?_
    refine hg_iadd d_T_run_48 ?_
    refine hg_eq1 (y := nI (dl + 1)) (nI_add _ _) ?_
    refine hg_istore6 d_T_run_49 rfl ?_
    refine hg_iload1 d_T_run_51 ?_
    refine hg_look (off := 107) (tgt := 159) d_T_run_52 (by decide) (by decide) (by decide) ?_
    refine hg_aload0 d_T_run_159 ?_
    refine hg_iconst (v := 0) d_T_run_160 (by decide) ?_
    refine hg_aload0 d_T_run_161 ?_
    refine hg_getI d_T_run_162 f_T_34 rfl rfl (hX.lt (n := 1) ⟨by decide, by decide⟩ rfl (by omega)) ?_
    refine hg_eq1 (y := nI K) (hK1.2.1) ?_
    refine hg_iload3 d_T_run_165 ?_
    refine hg_iload6 d_T_run_166 ?_
    have hr0 : (tk_r 11 st).1 ≤ 960 := by have e : (tk_r 11 st).1 = st.1 + 1 := rfl; omega
    refine hg_cVi d_T_run_168 l_T_39 rfl rfl (hX.lt (n := 1) ⟨by decide, by decide⟩ rfl (by omega)) rfl (Nat.le_of_ble_eq_true rfl) (m_find_A (x := x) (st := tk_r 11 st) (dl := (dl + 1)) hX hR hC1 hK1 hKk hKk (by omega) hr0) rfl ?_
    rintro _ _ ⟨I2, rfl, rfl, hC2, hf2⟩
    have hK2 := hK1.ft hf2
    have hg2 := hf2.tr hf1
    refine hg_aload0 d_T_run_171 ?_
    refine hg_getI d_T_run_172 f_T_38 rfl rfl (hX.lt (n := 1) ⟨by decide, by decide⟩ rfl (by omega)) ?_
    refine hg_eq1 (y := v) (hK2.2.2) ?_
    refine hg_isub d_T_run_175 ?_
    refine hg_ireturn d_T_run_176 rfl rfl ?_
    exact ⟨I2, rfl, rfl, hC2, hg2⟩
  refine hg_icmp_ge (tgt := 28) d_T_run_15 (by decide) (fun h20 => ?_) (fun h20 => ?_)
  · have h20 : ¬ st.1 < 20 := by have z := h20; rw [show (20 : Int32) = nI 20 from rfl, nI_leI (by decide) (by omega)] at z; omega
    refine hg_aload0 d_T_run_28 ?_
    refine hg_dup d_T_run_29 rfl ?_
    refine hg_getI d_T_run_30 f_T_16 rfl rfl (hX.lt (n := 1) ⟨by decide, by decide⟩ rfl (by omega)) ?_
    refine hg_eq1 (y := nI st.1) (hC.1) ?_
    refine hg_iconst (v := 1) d_T_run_33 (by decide) ?_
    refine hg_iadd d_T_run_34 ?_
    refine hg_eq1 (y := nI (st.1 + 1)) (nI_add _ _) ?_
    refine hg_putI d_T_run_35 f_T_16 rfl rfl (Or.inl rfl) rfl rfl (hX.lt (n := 1) ⟨by decide, by decide⟩ rfl (by omega)) ?_
    exact K1 _ (hC.r2 (b := 11) h20).1 (hC.r2 (b := 11) h20).2
  · have h20 : st.1 < 20 := by have z := h20; rw [show (20 : Int32) = nI 20 from rfl, nI_leI (by decide) (by omega)] at z; omega
    refine hg_aload0 d_T_run_18 ?_
    refine hg_getR d_T_run_19 f_T_9 rfl rfl (hX.lt (n := 1) ⟨by decide, by decide⟩ rfl (by omega)) hR.t0 ?_
    refine hg_aload0 d_T_run_22 ?_
    refine hg_getI d_T_run_23 f_T_16 rfl rfl (hX.lt (n := 1) ⟨by decide, by decide⟩ rfl (by omega)) ?_
    refine hg_eq1 (y := nI st.1) (hC.1) ?_
    refine hg_iload1 d_T_run_26 ?_
    refine hg_iast_n (j := st.1) d_T_run_27 rfl rfl (hX.lt (n := 1) ⟨by decide, by decide⟩ rfl (by omega)) (hX.jn (n := 20) (by decide) rfl (by omega)) ?_
    refine hg_aload0 d_T_run_28 ?_
    refine hg_dup d_T_run_29 rfl ?_
    refine hg_getI d_T_run_30 f_T_16 rfl rfl (hX.lt (n := 1) ⟨by decide, by decide⟩ rfl (by omega)) ?_
    refine hg_eq1 (y := I 13 0 1) (by simp [hg_u3]) ?_
    refine hg_eq1 (y := nI st.1) (hC.1) ?_
    refine hg_iconst (v := 1) d_T_run_33 (by decide) ?_
    refine hg_iadd d_T_run_34 ?_
    refine hg_eq1 (y := nI (st.1 + 1)) (nI_add _ _) ?_
    refine hg_putI d_T_run_35 f_T_16 rfl rfl (Or.inl rfl) rfl rfl (hX.lt (n := 1) ⟨by decide, by decide⟩ rfl (by omega)) ?_
    exact K1 _ (hC.r h20).1 (hC.r h20).2

theorem m_find_T0 {p K dl : Nat} {v x : Int32} {st : tk_S} (hX : hg_XS T X) (hR : hg_SR T Rf) (hC : tk_C st I) (hK : tk_K p v K I) (hKk : K ≤ 6) (hd : dl ≤ 33) (hr : st.1 ≤ 940) : hg_MC l E (d + 6) Y_T_find 0 0 [.ref (hg_ad E 13 0), .int 1, .int 0, .int x, .int (nI dl)] (I, Lg, Rf, X) (hg_i (fun r M' => ∃ I' : Nat → Nat → Nat → Int32, r = (tk_T p v K 0 (x) st).1 ∧ M' = (I', Lg, Rf, X) ∧ tk_C (tk_T p v K 0 (x) st).2 I' ∧ hg_ft I' I)) := by
  refine hg_mc k_T_find (Nat.le_of_ble_eq_true rfl) ?_
  show hg_WP l E _ Y_T_find 0 0 0 [some (.ref (hg_ad E 13 0)), some (.int 1), some (.int 0), some (.int x), some (.int (nI dl)), none, none, none] [] (I, Lg, Rf, X) _
  refine hg_iload2 d_T_find_0 ?_
  refine hg_istore5 d_T_find_1 rfl ?_
  refine hg_iconst (v := 0) d_T_find_3 (by decide) ?_
  refine hg_istore6 d_T_find_4 rfl ?_
  refine hg_iload6 d_T_find_6 ?_
  refine hg_iconst (v := 3) d_T_find_8 (by decide) ?_
  refine hg_icmp_ge (tgt := 60) d_T_find_9 (by decide) (fun h_1 => absurd h_1 (by decide)) (fun h_1 => ?_)
  refine hg_iload5 d_T_find_12 ?_
  refine hg_if_lt (tgt := 60) d_T_find_14 (by decide) (fun h_2 => absurd h_2 (by decide)) (fun h_2 => ?_)
  refine hg_gets d_T_find_17 s_T_43 (fun s h => hx_bodiesZ h) ?_
  refine hg_iconst (v := 3) d_T_find_20 (by decide) ?_
  refine hg_iload5 d_T_find_21 ?_
  refine hg_imul d_T_find_23 ?_
  refine hg_eq1 (y := 0) (by decide) ?_
  refine hg_iload1 d_T_find_24 ?_
  refine hg_iadd d_T_find_25 ?_
  refine hg_eq1 (y := 1) (by decide) ?_
  refine hg_ialdT_n (j := 1) d_T_find_26 (fun s h => hx_bodiesT h) (by omega) (by decide) ?_
  refine hg_eq1 (y := 11) (by decide) ?_
  refine hg_istore7 d_T_find_27 rfl ?_
  refine hg_iload7 d_T_find_29 ?_
  refine hg_if_eq (tgt := 46) d_T_find_31 (by decide) (fun h_3 => absurd h_3 (by decide)) (fun h_3 => ?_)
  refine hg_aload0 d_T_find_34 ?_
  refine hg_iload7 d_T_find_35 ?_
  refine hg_iload5 d_T_find_37 ?_
  refine hg_iload3 d_T_find_39 ?_
  refine hg_iload4 d_T_find_40 ?_
  refine hg_cVi d_T_find_42 l_T_46 rfl rfl (hX.lt (n := 1) ⟨by decide, by decide⟩ rfl (by omega)) rfl (Nat.le_of_ble_eq_true rfl) (m_run11 (x := x) (st := st) (dl := dl) hX hR hC hK hKk (by omega) (by omega)) rfl ?_
  rintro _ _ ⟨I1, rfl, rfl, hC1, hf1⟩
  refine hg_ireturn d_T_find_45 rfl rfl ?_
  exact ⟨I1, rfl, rfl, hC1, hf1⟩

theorem m_find_T2 {p K dl : Nat} {v x : Int32} {st : tk_S} (hX : hg_XS T X) (hR : hg_SR T Rf) (hC : tk_C st I) (hK : tk_K p v K I) (hKk : K ≤ 6) (hd : dl ≤ 33) (hr : st.1 ≤ 940) : hg_MC l E (d + 6) Y_T_find 0 0 [.ref (hg_ad E 13 0), .int 1, .int 2, .int x, .int (nI dl)] (I, Lg, Rf, X) (hg_i (fun r M' => ∃ I' : Nat → Nat → Nat → Int32, r = (tk_T p v K 2 (x) st).1 ∧ M' = (I', Lg, Rf, X) ∧ tk_C (tk_T p v K 2 (x) st).2 I' ∧ hg_ft I' I)) := by
  refine hg_mc k_T_find (Nat.le_of_ble_eq_true rfl) ?_
  show hg_WP l E _ Y_T_find 0 0 0 [some (.ref (hg_ad E 13 0)), some (.int 1), some (.int 2), some (.int x), some (.int (nI dl)), none, none, none] [] (I, Lg, Rf, X) _
  refine hg_iload2 d_T_find_0 ?_
  refine hg_istore5 d_T_find_1 rfl ?_
  refine hg_iconst (v := 0) d_T_find_3 (by decide) ?_
  refine hg_istore6 d_T_find_4 rfl ?_
  refine hg_iload6 d_T_find_6 ?_
  refine hg_iconst (v := 3) d_T_find_8 (by decide) ?_
  refine hg_icmp_ge (tgt := 60) d_T_find_9 (by decide) (fun h_1 => absurd h_1 (by decide)) (fun h_1 => ?_)
  refine hg_iload5 d_T_find_12 ?_
  refine hg_if_lt (tgt := 60) d_T_find_14 (by decide) (fun h_2 => absurd h_2 (by decide)) (fun h_2 => ?_)
  refine hg_gets d_T_find_17 s_T_43 (fun s h => hx_bodiesZ h) ?_
  refine hg_iconst (v := 3) d_T_find_20 (by decide) ?_
  refine hg_iload5 d_T_find_21 ?_
  refine hg_imul d_T_find_23 ?_
  refine hg_eq1 (y := 6) (by decide) ?_
  refine hg_iload1 d_T_find_24 ?_
  refine hg_iadd d_T_find_25 ?_
  refine hg_eq1 (y := 7) (by decide) ?_
  refine hg_ialdT_n (j := 7) d_T_find_26 (fun s h => hx_bodiesT h) (by omega) (by decide) ?_
  refine hg_eq1 (y := 0) (by decide) ?_
  refine hg_istore7 d_T_find_27 rfl ?_
  refine hg_iload7 d_T_find_29 ?_
  refine hg_if_eq (tgt := 46) d_T_find_31 (by decide) (fun h_3 => ?_) (fun h_3 => absurd (by decide) h_3)
  refine hg_gets d_T_find_46 s_T_13 (fun s h => hx_aboveZ h) ?_
  refine hg_iload5 d_T_find_49 ?_
  refine hg_ialdT_n (j := 2) d_T_find_51 (fun s h => hx_aboveT h) (by omega) (by decide) ?_
  refine hg_eq1 (y := 0) (by decide) ?_
  refine hg_istore5 d_T_find_52 rfl ?_
  refine hg_iinc6 (v := 1) d_T_find_54 rfl (by decide) ?_
  refine hg_goto (tgt := 6) d_T_find_57 (by decide) ?_
  refine hg_iload6 d_T_find_6 ?_
  refine hg_iconst (v := 3) d_T_find_8 (by decide) ?_
  refine hg_icmp_ge (tgt := 60) d_T_find_9 (by decide) (fun h_4 => absurd h_4 (by decide)) (fun h_4 => ?_)
  refine hg_iload5 d_T_find_12 ?_
  refine hg_if_lt (tgt := 60) d_T_find_14 (by decide) (fun h_5 => absurd h_5 (by decide)) (fun h_5 => ?_)
  refine hg_gets d_T_find_17 s_T_43 (fun s h => hx_bodiesZ h) ?_
  refine hg_iconst (v := 3) d_T_find_20 (by decide) ?_
  refine hg_iload5 d_T_find_21 ?_
  refine hg_imul d_T_find_23 ?_
  refine hg_eq1 (y := 0) (by decide) ?_
  refine hg_iload1 d_T_find_24 ?_
  refine hg_iadd d_T_find_25 ?_
  refine hg_eq1 (y := 1) (by decide) ?_
  refine hg_ialdT_n (j := 1) d_T_find_26 (fun s h => hx_bodiesT h) (by omega) (by decide) ?_
  refine hg_eq1 (y := 11) (by decide) ?_
  refine hg_istore7 d_T_find_27 rfl ?_
  refine hg_iload7 d_T_find_29 ?_
  refine hg_if_eq (tgt := 46) d_T_find_31 (by decide) (fun h_6 => absurd h_6 (by decide)) (fun h_6 => ?_)
  refine hg_aload0 d_T_find_34 ?_
  refine hg_iload7 d_T_find_35 ?_
  refine hg_iload5 d_T_find_37 ?_
  refine hg_iload3 d_T_find_39 ?_
  refine hg_iload4 d_T_find_40 ?_
  refine hg_cVi d_T_find_42 l_T_46 rfl rfl (hX.lt (n := 1) ⟨by decide, by decide⟩ rfl (by omega)) rfl (Nat.le_of_ble_eq_true rfl) (m_run11 (x := x) (st := st) (dl := dl) hX hR hC hK hKk (by omega) (by omega)) rfl ?_
  rintro _ _ ⟨I1, rfl, rfl, hC1, hf1⟩
  refine hg_ireturn d_T_find_45 rfl rfl ?_
  exact ⟨I1, rfl, rfl, hC1, hf1⟩

theorem m_find_T3 {p K dl : Nat} {v x : Int32} {st : tk_S} (hX : hg_XS T X) (hR : hg_SR T Rf) (hC : tk_C st I) (hK : tk_K p v K I) (hKk : K ≤ 6) (hd : dl ≤ 33) (hr : st.1 ≤ 940) : hg_MC l E (d + 6) Y_T_find 0 0 [.ref (hg_ad E 13 0), .int 1, .int 3, .int x, .int (nI dl)] (I, Lg, Rf, X) (hg_i (fun r M' => ∃ I' : Nat → Nat → Nat → Int32, r = (tk_T p v K 3 (x) st).1 ∧ M' = (I', Lg, Rf, X) ∧ tk_C (tk_T p v K 3 (x) st).2 I' ∧ hg_ft I' I)) := by
  refine hg_mc k_T_find (Nat.le_of_ble_eq_true rfl) ?_
  show hg_WP l E _ Y_T_find 0 0 0 [some (.ref (hg_ad E 13 0)), some (.int 1), some (.int 3), some (.int x), some (.int (nI dl)), none, none, none] [] (I, Lg, Rf, X) _
  refine hg_iload2 d_T_find_0 ?_
  refine hg_istore5 d_T_find_1 rfl ?_
  refine hg_iconst (v := 0) d_T_find_3 (by decide) ?_
  refine hg_istore6 d_T_find_4 rfl ?_
  refine hg_iload6 d_T_find_6 ?_
  refine hg_iconst (v := 3) d_T_find_8 (by decide) ?_
  refine hg_icmp_ge (tgt := 60) d_T_find_9 (by decide) (fun h_1 => absurd h_1 (by decide)) (fun h_1 => ?_)
  refine hg_iload5 d_T_find_12 ?_
  refine hg_if_lt (tgt := 60) d_T_find_14 (by decide) (fun h_2 => absurd h_2 (by decide)) (fun h_2 => ?_)
  refine hg_gets d_T_find_17 s_T_43 (fun s h => hx_bodiesZ h) ?_
  refine hg_iconst (v := 3) d_T_find_20 (by decide) ?_
  refine hg_iload5 d_T_find_21 ?_
  refine hg_imul d_T_find_23 ?_
  refine hg_eq1 (y := 9) (by decide) ?_
  refine hg_iload1 d_T_find_24 ?_
  refine hg_iadd d_T_find_25 ?_
  refine hg_eq1 (y := 10) (by decide) ?_
  refine hg_ialdT_n (j := 10) d_T_find_26 (fun s h => hx_bodiesT h) (by omega) (by decide) ?_
  refine hg_eq1 (y := 0) (by decide) ?_
  refine hg_istore7 d_T_find_27 rfl ?_
  refine hg_iload7 d_T_find_29 ?_
  refine hg_if_eq (tgt := 46) d_T_find_31 (by decide) (fun h_3 => ?_) (fun h_3 => absurd (by decide) h_3)
  refine hg_gets d_T_find_46 s_T_13 (fun s h => hx_aboveZ h) ?_
  refine hg_iload5 d_T_find_49 ?_
  refine hg_ialdT_n (j := 3) d_T_find_51 (fun s h => hx_aboveT h) (by omega) (by decide) ?_
  refine hg_eq1 (y := 0) (by decide) ?_
  refine hg_istore5 d_T_find_52 rfl ?_
  refine hg_iinc6 (v := 1) d_T_find_54 rfl (by decide) ?_
  refine hg_goto (tgt := 6) d_T_find_57 (by decide) ?_
  refine hg_iload6 d_T_find_6 ?_
  refine hg_iconst (v := 3) d_T_find_8 (by decide) ?_
  refine hg_icmp_ge (tgt := 60) d_T_find_9 (by decide) (fun h_4 => absurd h_4 (by decide)) (fun h_4 => ?_)
  refine hg_iload5 d_T_find_12 ?_
  refine hg_if_lt (tgt := 60) d_T_find_14 (by decide) (fun h_5 => absurd h_5 (by decide)) (fun h_5 => ?_)
  refine hg_gets d_T_find_17 s_T_43 (fun s h => hx_bodiesZ h) ?_
  refine hg_iconst (v := 3) d_T_find_20 (by decide) ?_
  refine hg_iload5 d_T_find_21 ?_
  refine hg_imul d_T_find_23 ?_
  refine hg_eq1 (y := 0) (by decide) ?_
  refine hg_iload1 d_T_find_24 ?_
  refine hg_iadd d_T_find_25 ?_
  refine hg_eq1 (y := 1) (by decide) ?_
  refine hg_ialdT_n (j := 1) d_T_find_26 (fun s h => hx_bodiesT h) (by omega) (by decide) ?_
  refine hg_eq1 (y := 11) (by decide) ?_
  refine hg_istore7 d_T_find_27 rfl ?_
  refine hg_iload7 d_T_find_29 ?_
  refine hg_if_eq (tgt := 46) d_T_find_31 (by decide) (fun h_6 => absurd h_6 (by decide)) (fun h_6 => ?_)
  refine hg_aload0 d_T_find_34 ?_
  refine hg_iload7 d_T_find_35 ?_
  refine hg_iload5 d_T_find_37 ?_
  refine hg_iload3 d_T_find_39 ?_
  refine hg_iload4 d_T_find_40 ?_
  refine hg_cVi d_T_find_42 l_T_46 rfl rfl (hX.lt (n := 1) ⟨by decide, by decide⟩ rfl (by omega)) rfl (Nat.le_of_ble_eq_true rfl) (m_run11 (x := x) (st := st) (dl := dl) hX hR hC hK hKk (by omega) (by omega)) rfl ?_
  rintro _ _ ⟨I1, rfl, rfl, hC1, hf1⟩
  refine hg_ireturn d_T_find_45 rfl rfl ?_
  exact ⟨I1, rfl, rfl, hC1, hf1⟩

theorem m_find_T5 {p K dl : Nat} {v x : Int32} {st : tk_S} (hX : hg_XS T X) (hR : hg_SR T Rf) (hC : tk_C st I) (hK : tk_K p v K I) (hKk : K ≤ 6) (hd : dl ≤ 33) (hr : st.1 ≤ 940) : hg_MC l E (d + 6) Y_T_find 0 0 [.ref (hg_ad E 13 0), .int 1, .int 5, .int x, .int (nI dl)] (I, Lg, Rf, X) (hg_i (fun r M' => ∃ I' : Nat → Nat → Nat → Int32, r = (tk_T p v K 5 (x) st).1 ∧ M' = (I', Lg, Rf, X) ∧ tk_C (tk_T p v K 5 (x) st).2 I' ∧ hg_ft I' I)) := by
  refine hg_mc k_T_find (Nat.le_of_ble_eq_true rfl) ?_
  show hg_WP l E _ Y_T_find 0 0 0 [some (.ref (hg_ad E 13 0)), some (.int 1), some (.int 5), some (.int x), some (.int (nI dl)), none, none, none] [] (I, Lg, Rf, X) _
  refine hg_iload2 d_T_find_0 ?_
  refine hg_istore5 d_T_find_1 rfl ?_
  refine hg_iconst (v := 0) d_T_find_3 (by decide) ?_
  refine hg_istore6 d_T_find_4 rfl ?_
  refine hg_iload6 d_T_find_6 ?_
  refine hg_iconst (v := 3) d_T_find_8 (by decide) ?_
  refine hg_icmp_ge (tgt := 60) d_T_find_9 (by decide) (fun h_1 => absurd h_1 (by decide)) (fun h_1 => ?_)
  refine hg_iload5 d_T_find_12 ?_
  refine hg_if_lt (tgt := 60) d_T_find_14 (by decide) (fun h_2 => absurd h_2 (by decide)) (fun h_2 => ?_)
  refine hg_gets d_T_find_17 s_T_43 (fun s h => hx_bodiesZ h) ?_
  refine hg_iconst (v := 3) d_T_find_20 (by decide) ?_
  refine hg_iload5 d_T_find_21 ?_
  refine hg_imul d_T_find_23 ?_
  refine hg_eq1 (y := 15) (by decide) ?_
  refine hg_iload1 d_T_find_24 ?_
  refine hg_iadd d_T_find_25 ?_
  refine hg_eq1 (y := 16) (by decide) ?_
  refine hg_ialdT_n (j := 16) d_T_find_26 (fun s h => hx_bodiesT h) (by omega) (by decide) ?_
  refine hg_eq1 (y := 0) (by decide) ?_
  refine hg_istore7 d_T_find_27 rfl ?_
  refine hg_iload7 d_T_find_29 ?_
  refine hg_if_eq (tgt := 46) d_T_find_31 (by decide) (fun h_3 => ?_) (fun h_3 => absurd (by decide) h_3)
  refine hg_gets d_T_find_46 s_T_13 (fun s h => hx_aboveZ h) ?_
  refine hg_iload5 d_T_find_49 ?_
  refine hg_ialdT_n (j := 5) d_T_find_51 (fun s h => hx_aboveT h) (by omega) (by decide) ?_
  refine hg_eq1 (y := 2) (by decide) ?_
  refine hg_istore5 d_T_find_52 rfl ?_
  refine hg_iinc6 (v := 1) d_T_find_54 rfl (by decide) ?_
  refine hg_goto (tgt := 6) d_T_find_57 (by decide) ?_
  refine hg_iload6 d_T_find_6 ?_
  refine hg_iconst (v := 3) d_T_find_8 (by decide) ?_
  refine hg_icmp_ge (tgt := 60) d_T_find_9 (by decide) (fun h_4 => absurd h_4 (by decide)) (fun h_4 => ?_)
  refine hg_iload5 d_T_find_12 ?_
  refine hg_if_lt (tgt := 60) d_T_find_14 (by decide) (fun h_5 => absurd h_5 (by decide)) (fun h_5 => ?_)
  refine hg_gets d_T_find_17 s_T_43 (fun s h => hx_bodiesZ h) ?_
  refine hg_iconst (v := 3) d_T_find_20 (by decide) ?_
  refine hg_iload5 d_T_find_21 ?_
  refine hg_imul d_T_find_23 ?_
  refine hg_eq1 (y := 6) (by decide) ?_
  refine hg_iload1 d_T_find_24 ?_
  refine hg_iadd d_T_find_25 ?_
  refine hg_eq1 (y := 7) (by decide) ?_
  refine hg_ialdT_n (j := 7) d_T_find_26 (fun s h => hx_bodiesT h) (by omega) (by decide) ?_
  refine hg_eq1 (y := 0) (by decide) ?_
  refine hg_istore7 d_T_find_27 rfl ?_
  refine hg_iload7 d_T_find_29 ?_
  refine hg_if_eq (tgt := 46) d_T_find_31 (by decide) (fun h_6 => ?_) (fun h_6 => absurd (by decide) h_6)
  refine hg_gets d_T_find_46 s_T_13 (fun s h => hx_aboveZ h) ?_
  refine hg_iload5 d_T_find_49 ?_
  refine hg_ialdT_n (j := 2) d_T_find_51 (fun s h => hx_aboveT h) (by omega) (by decide) ?_
  refine hg_eq1 (y := 0) (by decide) ?_
  refine hg_istore5 d_T_find_52 rfl ?_
  refine hg_iinc6 (v := 2) d_T_find_54 rfl (by decide) ?_
  refine hg_goto (tgt := 6) d_T_find_57 (by decide) ?_
  refine hg_iload6 d_T_find_6 ?_
  refine hg_iconst (v := 3) d_T_find_8 (by decide) ?_
  refine hg_icmp_ge (tgt := 60) d_T_find_9 (by decide) (fun h_7 => absurd h_7 (by decide)) (fun h_7 => ?_)
  refine hg_iload5 d_T_find_12 ?_
  refine hg_if_lt (tgt := 60) d_T_find_14 (by decide) (fun h_8 => absurd h_8 (by decide)) (fun h_8 => ?_)
  refine hg_gets d_T_find_17 s_T_43 (fun s h => hx_bodiesZ h) ?_
  refine hg_iconst (v := 3) d_T_find_20 (by decide) ?_
  refine hg_iload5 d_T_find_21 ?_
  refine hg_imul d_T_find_23 ?_
  refine hg_eq1 (y := 0) (by decide) ?_
  refine hg_iload1 d_T_find_24 ?_
  refine hg_iadd d_T_find_25 ?_
  refine hg_eq1 (y := 1) (by decide) ?_
  refine hg_ialdT_n (j := 1) d_T_find_26 (fun s h => hx_bodiesT h) (by omega) (by decide) ?_
  refine hg_eq1 (y := 11) (by decide) ?_
  refine hg_istore7 d_T_find_27 rfl ?_
  refine hg_iload7 d_T_find_29 ?_
  refine hg_if_eq (tgt := 46) d_T_find_31 (by decide) (fun h_9 => absurd h_9 (by decide)) (fun h_9 => ?_)
  refine hg_aload0 d_T_find_34 ?_
  refine hg_iload7 d_T_find_35 ?_
  refine hg_iload5 d_T_find_37 ?_
  refine hg_iload3 d_T_find_39 ?_
  refine hg_iload4 d_T_find_40 ?_
  refine hg_cVi d_T_find_42 l_T_46 rfl rfl (hX.lt (n := 1) ⟨by decide, by decide⟩ rfl (by omega)) rfl (Nat.le_of_ble_eq_true rfl) (m_run11 (x := x) (st := st) (dl := dl) hX hR hC hK hKk (by omega) (by omega)) rfl ?_
  rintro _ _ ⟨I1, rfl, rfl, hC1, hf1⟩
  refine hg_ireturn d_T_find_45 rfl rfl ?_
  exact ⟨I1, rfl, rfl, hC1, hf1⟩

theorem m_run20 {p K dl : Nat} {v x : Int32} {st : tk_S} (hX : hg_XS T X) (hR : hg_SR T Rf) (hC : tk_C st I) (hK : tk_K p v K I) (hKk : K ≤ 6) (hd : dl ≤ 32) (hr : st.1 ≤ 930) : hg_MC l E (d + 7) Y_T_run 0 0 [.ref (hg_ad E 13 0), .int 20, .int 1, .int x, .int (nI dl)] (I, Lg, Rf, X) (hg_i (fun r M' => ∃ I' : Nat → Nat → Nat → Int32, r = (tk_T p v K 1 x st).1 ∧ M' = (I', Lg, Rf, X) ∧ tk_C (tk_T p v K 1 x st).2 I' ∧ hg_ft I' I)) := by
  refine hg_mc k_T_run (Nat.le_of_ble_eq_true rfl) ?_
  show hg_WP l E _ Y_T_run 0 0 0 [some (.ref (hg_ad E 13 0)), some (.int 20), some (.int 1), some (.int x), some (.int (nI dl)), none, none] [] (I, Lg, Rf, X) _
  refine hg_iload4 d_T_run_0 ?_
  refine hg_bipush (v := 40) d_T_run_2 (by decide) ?_
  refine hg_icmp_ne (tgt := 9) d_T_run_4 (by decide) (fun h_1 => ?_) (fun h_1 => absurd (fun (e : nI dl = nI 40) => by have := (nI_eq (by omega) (by decide)).mp e; omega) h_1)
  refine hg_aload0 d_T_run_9 ?_
  refine hg_getI d_T_run_10 f_T_16 rfl rfl (hX.lt (n := 1) ⟨by decide, by decide⟩ rfl (by omega)) ?_
  refine hg_eq1 (y := nI st.1) (hC.1) ?_
  refine hg_bipush (v := 20) d_T_run_13 (by decide) ?_
  have K1 : ∀ I1 : Nat → Nat → Nat → Int32, tk_C (tk_r 20 st) I1 → hg_ft I1 I → hg_WP l E (d + 6) Y_T_run 0 0 38 [some (.ref (hg_ad E 13 0)), some (.int 20), some (.int 1), some (.int x), some (.int (nI dl)), none, none] [] (I1, Lg, Rf, X) (hg_i (fun r M' => ∃ I' : Nat → Nat → Nat → Int32, r = (tk_T p v K 1 x st).1 ∧ M' = (I', Lg, Rf, X) ∧ tk_C (tk_T p v K 1 x st).2 I' ∧ hg_ft I' I)) := by
    intro I1 hC1 hf1
    have hK1 := hK.ft hf1
    refine hg_gets d_T_run_38 s_T_13 (fun s h => hx_aboveZ h) ?_
    refine hg_iload2 d_T_run_41 ?_
    refine hg_ialdT_n (j := 1) d_T_run_42 (fun s h => hx_aboveT h) (by omega) (by decide) ?_
    refine hg_eq1 (y := 0) (by decide) ?_
    refine hg_istore5 d_T_run_43 rfl ?_
    refine hg_iload4 d_T_run_45 ?_
    refine hg_iconst (v := 1) d_T_run_47 (by decide) ?_
    refine hg_iadd d_T_run_48 ?_
    refine hg_eq1 (y := nI (dl + 1)) (nI_add _ _) ?_
    refine hg_istore6 d_T_run_49 rfl ?_
    refine hg_iload1 d_T_run_51 ?_
    refine hg_look (off := 140) (tgt := 192) d_T_run_52 (by decide) (by decide) (by decide) ?_
    refine hg_aload0 d_T_run_192 ?_
    refine hg_iconst (v := 1) d_T_run_193 (by decide) ?_
    refine hg_iload5 d_T_run_194 ?_
    refine hg_iload3 d_T_run_196 ?_
    refine hg_iload6 d_T_run_197 ?_
    have hr0 : (tk_r 20 st).1 ≤ 940 := by have e : (tk_r 20 st).1 = st.1 + 1 := rfl; omega
    refine hg_cVi d_T_run_199 l_T_39 rfl rfl (hX.lt (n := 1) ⟨by decide, by decide⟩ rfl (by omega)) rfl (Nat.le_of_ble_eq_true rfl) (m_find_T0 (x := x) (st := tk_r 20 st) (dl := (dl + 1)) hX hR hC1 hK1 hKk (by omega) hr0) rfl ?_
    rintro _ _ ⟨I2, rfl, rfl, hC2, hf2⟩
    have hK2 := hK1.ft hf2
    have hg2 := hf2.tr hf1
    refine hg_bipush (v := 6) d_T_run_202 (by decide) ?_
    refine hg_ixor d_T_run_204 ?_
    refine hg_ireturn d_T_run_205 rfl rfl ?_
    exact ⟨I2, rfl, rfl, hC2, hg2⟩
  refine hg_icmp_ge (tgt := 28) d_T_run_15 (by decide) (fun h20 => ?_) (fun h20 => ?_)
  · have h20 : ¬ st.1 < 20 := by have z := h20; rw [show (20 : Int32) = nI 20 from rfl, nI_leI (by decide) (by omega)] at z; omega
    refine hg_aload0 d_T_run_28 ?_
    refine hg_dup d_T_run_29 rfl ?_
    refine hg_getI d_T_run_30 f_T_16 rfl rfl (hX.lt (n := 1) ⟨by decide, by decide⟩ rfl (by omega)) ?_
    refine hg_eq1 (y := nI st.1) (hC.1) ?_
    refine hg_iconst (v := 1) d_T_run_33 (by decide) ?_
    refine hg_iadd d_T_run_34 ?_
    refine hg_eq1 (y := nI (st.1 + 1)) (nI_add _ _) ?_
    refine hg_putI d_T_run_35 f_T_16 rfl rfl (Or.inl rfl) rfl rfl (hX.lt (n := 1) ⟨by decide, by decide⟩ rfl (by omega)) ?_
    exact K1 _ (hC.r2 (b := 20) h20).1 (hC.r2 (b := 20) h20).2
  · have h20 : st.1 < 20 := by have z := h20; rw [show (20 : Int32) = nI 20 from rfl, nI_leI (by decide) (by omega)] at z; omega
    refine hg_aload0 d_T_run_18 ?_
    refine hg_getR d_T_run_19 f_T_9 rfl rfl (hX.lt (n := 1) ⟨by decide, by decide⟩ rfl (by omega)) hR.t0 ?_
    refine hg_aload0 d_T_run_22 ?_
    refine hg_getI d_T_run_23 f_T_16 rfl rfl (hX.lt (n := 1) ⟨by decide, by decide⟩ rfl (by omega)) ?_
    refine hg_eq1 (y := nI st.1) (hC.1) ?_
    refine hg_iload1 d_T_run_26 ?_
    refine hg_iast_n (j := st.1) d_T_run_27 rfl rfl (hX.lt (n := 1) ⟨by decide, by decide⟩ rfl (by omega)) (hX.jn (n := 20) (by decide) rfl (by omega)) ?_
    refine hg_aload0 d_T_run_28 ?_
    refine hg_dup d_T_run_29 rfl ?_
    refine hg_getI d_T_run_30 f_T_16 rfl rfl (hX.lt (n := 1) ⟨by decide, by decide⟩ rfl (by omega)) ?_
    refine hg_eq1 (y := I 13 0 1) (by simp [hg_u3]) ?_
    refine hg_eq1 (y := nI st.1) (hC.1) ?_
    refine hg_iconst (v := 1) d_T_run_33 (by decide) ?_
    refine hg_iadd d_T_run_34 ?_
    refine hg_eq1 (y := nI (st.1 + 1)) (nI_add _ _) ?_
    refine hg_putI d_T_run_35 f_T_16 rfl rfl (Or.inl rfl) rfl rfl (hX.lt (n := 1) ⟨by decide, by decide⟩ rfl (by omega)) ?_
    exact K1 _ (hC.r h20).1 (hC.r h20).2

theorem m_find_T1 {p K dl : Nat} {v x : Int32} {st : tk_S} (hX : hg_XS T X) (hR : hg_SR T Rf) (hC : tk_C st I) (hK : tk_K p v K I) (hKk : K ≤ 6) (hd : dl ≤ 31) (hr : st.1 ≤ 920) : hg_MC l E (d + 8) Y_T_find 0 0 [.ref (hg_ad E 13 0), .int 1, .int 1, .int x, .int (nI dl)] (I, Lg, Rf, X) (hg_i (fun r M' => ∃ I' : Nat → Nat → Nat → Int32, r = (tk_T p v K 1 (x) st).1 ∧ M' = (I', Lg, Rf, X) ∧ tk_C (tk_T p v K 1 (x) st).2 I' ∧ hg_ft I' I)) := by
  refine hg_mc k_T_find (Nat.le_of_ble_eq_true rfl) ?_
  show hg_WP l E _ Y_T_find 0 0 0 [some (.ref (hg_ad E 13 0)), some (.int 1), some (.int 1), some (.int x), some (.int (nI dl)), none, none, none] [] (I, Lg, Rf, X) _
  refine hg_iload2 d_T_find_0 ?_
  refine hg_istore5 d_T_find_1 rfl ?_
  refine hg_iconst (v := 0) d_T_find_3 (by decide) ?_
  refine hg_istore6 d_T_find_4 rfl ?_
  refine hg_iload6 d_T_find_6 ?_
  refine hg_iconst (v := 3) d_T_find_8 (by decide) ?_
  refine hg_icmp_ge (tgt := 60) d_T_find_9 (by decide) (fun h_1 => absurd h_1 (by decide)) (fun h_1 => ?_)
  refine hg_iload5 d_T_find_12 ?_
  refine hg_if_lt (tgt := 60) d_T_find_14 (by decide) (fun h_2 => absurd h_2 (by decide)) (fun h_2 => ?_)
  refine hg_gets d_T_find_17 s_T_43 (fun s h => hx_bodiesZ h) ?_
  refine hg_iconst (v := 3) d_T_find_20 (by decide) ?_
  refine hg_iload5 d_T_find_21 ?_
  refine hg_imul d_T_find_23 ?_
  refine hg_eq1 (y := 3) (by decide) ?_
  refine hg_iload1 d_T_find_24 ?_
  refine hg_iadd d_T_find_25 ?_
  refine hg_eq1 (y := 4) (by decide) ?_
  refine hg_ialdT_n (j := 4) d_T_find_26 (fun s h => hx_bodiesT h) (by omega) (by decide) ?_
  refine hg_eq1 (y := 20) (by decide) ?_
  refine hg_istore7 d_T_find_27 rfl ?_
  refine hg_iload7 d_T_find_29 ?_
  refine hg_if_eq (tgt := 46) d_T_find_31 (by decide) (fun h_3 => absurd h_3 (by decide)) (fun h_3 => ?_)
  refine hg_aload0 d_T_find_34 ?_
  refine hg_iload7 d_T_find_35 ?_
  refine hg_iload5 d_T_find_37 ?_
  refine hg_iload3 d_T_find_39 ?_
  refine hg_iload4 d_T_find_40 ?_
  refine hg_cVi d_T_find_42 l_T_46 rfl rfl (hX.lt (n := 1) ⟨by decide, by decide⟩ rfl (by omega)) rfl (Nat.le_of_ble_eq_true rfl) (m_run20 (x := x) (st := st) (dl := dl) hX hR hC hK hKk (by omega) (by omega)) rfl ?_
  rintro _ _ ⟨I1, rfl, rfl, hC1, hf1⟩
  refine hg_ireturn d_T_find_45 rfl rfl ?_
  exact ⟨I1, rfl, rfl, hC1, hf1⟩

theorem m_run51 {p K dl : Nat} {v x : Int32} {st : tk_S} (hX : hg_XS T X) (hR : hg_SR T Rf) (hC : tk_C st I) (hK : tk_K p v K I) (hKk : K ≤ 6) (hd : dl ≤ 30) (hr : st.1 ≤ 910) : hg_MC l E (d + 9) Y_T_run 0 0 [.ref (hg_ad E 13 0), .int 51, .int 4, .int x, .int (nI dl)] (I, Lg, Rf, X) (hg_i (fun r M' => ∃ I' : Nat → Nat → Nat → Int32, r = (tk_T p v K 4 x st).1 ∧ M' = (I', Lg, Rf, X) ∧ tk_C (tk_T p v K 4 x st).2 I' ∧ hg_ft I' I)) := by
  refine hg_mc k_T_run (Nat.le_of_ble_eq_true rfl) ?_
  show hg_WP l E _ Y_T_run 0 0 0 [some (.ref (hg_ad E 13 0)), some (.int 51), some (.int 4), some (.int x), some (.int (nI dl)), none, none] [] (I, Lg, Rf, X) _
  refine hg_iload4 d_T_run_0 ?_
  refine hg_bipush (v := 40) d_T_run_2 (by decide) ?_
  refine hg_icmp_ne (tgt := 9) d_T_run_4 (by decide) (fun h_1 => ?_) (fun h_1 => absurd (fun (e : nI dl = nI 40) => by have := (nI_eq (by omega) (by decide)).mp e; omega) h_1)
  refine hg_aload0 d_T_run_9 ?_
  refine hg_getI d_T_run_10 f_T_16 rfl rfl (hX.lt (n := 1) ⟨by decide, by decide⟩ rfl (by omega)) ?_
  refine hg_eq1 (y := nI st.1) (hC.1) ?_
  refine hg_bipush (v := 20) d_T_run_13 (by decide) ?_
  have K1 : ∀ I1 : Nat → Nat → Nat → Int32, tk_C (tk_r 51 st) I1 → hg_ft I1 I → hg_WP l E (d + 8) Y_T_run 0 0 38 [some (.ref (hg_ad E 13 0)), some (.int 51), some (.int 4), some (.int x), some (.int (nI dl)), none, none] [] (I1, Lg, Rf, X) (hg_i (fun r M' => ∃ I' : Nat → Nat → Nat → Int32, r = (tk_T p v K 4 x st).1 ∧ M' = (I', Lg, Rf, X) ∧ tk_C (tk_T p v K 4 x st).2 I' ∧ hg_ft I' I)) := by
    intro I1 hC1 hf1
    have hK1 := hK.ft hf1
    refine hg_gets d_T_run_38 s_T_13 (fun s h => hx_aboveZ h) ?_
    refine hg_iload2 d_T_run_41 ?_
    refine hg_ialdT_n (j := 4) d_T_run_42 (fun s h => hx_aboveT h) (by omega) (by decide) ?_
    refine hg_eq1 (y := 1) (by decide) ?_
    refine hg_istore5 d_T_run_43 rfl ?_
    refine hg_iload4 d_T_run_45 ?_
    refine hg_iconst (v := 1) d_T_run_47 (by decide) ?_
    refine hg_iadd d_T_run_48 ?_
    refine hg_eq1 (y := nI (dl + 1)) (nI_add _ _) ?_
    refine hg_istore6 d_T_run_49 rfl ?_
    refine hg_iload1 d_T_run_51 ?_
    refine hg_look (off := 203) (tgt := 255) d_T_run_52 (by decide) (by decide) (by decide) ?_
    refine hg_aload0 d_T_run_255 ?_
    refine hg_iconst (v := 1) d_T_run_256 (by decide) ?_
    refine hg_iload5 d_T_run_257 ?_
    refine hg_iload3 d_T_run_259 ?_
    refine hg_iconst (v := 1) d_T_run_260 (by decide) ?_
    refine hg_iadd d_T_run_261 ?_
    refine hg_iload6 d_T_run_262 ?_
    have hr0 : (tk_r 51 st).1 ≤ 920 := by have e : (tk_r 51 st).1 = st.1 + 1 := rfl; omega
    refine hg_cVi d_T_run_264 l_T_39 rfl rfl (hX.lt (n := 1) ⟨by decide, by decide⟩ rfl (by omega)) rfl (Nat.le_of_ble_eq_true rfl) (m_find_T1 (x := x + 1) (st := tk_r 51 st) (dl := (dl + 1)) hX hR hC1 hK1 hKk (by omega) hr0) rfl ?_
    rintro _ _ ⟨I2, rfl, rfl, hC2, hf2⟩
    have hK2 := hK1.ft hf2
    have hg2 := hf2.tr hf1
    refine hg_ireturn d_T_run_267 rfl rfl ?_
    exact ⟨I2, rfl, rfl, hC2, hg2⟩
  refine hg_icmp_ge (tgt := 28) d_T_run_15 (by decide) (fun h20 => ?_) (fun h20 => ?_)
  · have h20 : ¬ st.1 < 20 := by have z := h20; rw [show (20 : Int32) = nI 20 from rfl, nI_leI (by decide) (by omega)] at z; omega
    refine hg_aload0 d_T_run_28 ?_
    refine hg_dup d_T_run_29 rfl ?_
    refine hg_getI d_T_run_30 f_T_16 rfl rfl (hX.lt (n := 1) ⟨by decide, by decide⟩ rfl (by omega)) ?_
    refine hg_eq1 (y := nI st.1) (hC.1) ?_
    refine hg_iconst (v := 1) d_T_run_33 (by decide) ?_
    refine hg_iadd d_T_run_34 ?_
    refine hg_eq1 (y := nI (st.1 + 1)) (nI_add _ _) ?_
    refine hg_putI d_T_run_35 f_T_16 rfl rfl (Or.inl rfl) rfl rfl (hX.lt (n := 1) ⟨by decide, by decide⟩ rfl (by omega)) ?_
    exact K1 _ (hC.r2 (b := 51) h20).1 (hC.r2 (b := 51) h20).2
  · have h20 : st.1 < 20 := by have z := h20; rw [show (20 : Int32) = nI 20 from rfl, nI_leI (by decide) (by omega)] at z; omega
    refine hg_aload0 d_T_run_18 ?_
    refine hg_getR d_T_run_19 f_T_9 rfl rfl (hX.lt (n := 1) ⟨by decide, by decide⟩ rfl (by omega)) hR.t0 ?_
    refine hg_aload0 d_T_run_22 ?_
    refine hg_getI d_T_run_23 f_T_16 rfl rfl (hX.lt (n := 1) ⟨by decide, by decide⟩ rfl (by omega)) ?_
    refine hg_eq1 (y := nI st.1) (hC.1) ?_
    refine hg_iload1 d_T_run_26 ?_
    refine hg_iast_n (j := st.1) d_T_run_27 rfl rfl (hX.lt (n := 1) ⟨by decide, by decide⟩ rfl (by omega)) (hX.jn (n := 20) (by decide) rfl (by omega)) ?_
    refine hg_aload0 d_T_run_28 ?_
    refine hg_dup d_T_run_29 rfl ?_
    refine hg_getI d_T_run_30 f_T_16 rfl rfl (hX.lt (n := 1) ⟨by decide, by decide⟩ rfl (by omega)) ?_
    refine hg_eq1 (y := I 13 0 1) (by simp [hg_u3]) ?_
    refine hg_eq1 (y := nI st.1) (hC.1) ?_
    refine hg_iconst (v := 1) d_T_run_33 (by decide) ?_
    refine hg_iadd d_T_run_34 ?_
    refine hg_eq1 (y := nI (st.1 + 1)) (nI_add _ _) ?_
    refine hg_putI d_T_run_35 f_T_16 rfl rfl (Or.inl rfl) rfl rfl (hX.lt (n := 1) ⟨by decide, by decide⟩ rfl (by omega)) ?_
    exact K1 _ (hC.r h20).1 (hC.r h20).2

theorem m_find_T4 {p K dl : Nat} {v x : Int32} {st : tk_S} (hX : hg_XS T X) (hR : hg_SR T Rf) (hC : tk_C st I) (hK : tk_K p v K I) (hKk : K ≤ 6) (hd : dl ≤ 29) (hr : st.1 ≤ 900) : hg_MC l E (d + 10) Y_T_find 0 0 [.ref (hg_ad E 13 0), .int 1, .int 4, .int x, .int (nI dl)] (I, Lg, Rf, X) (hg_i (fun r M' => ∃ I' : Nat → Nat → Nat → Int32, r = (tk_T p v K 4 (x) st).1 ∧ M' = (I', Lg, Rf, X) ∧ tk_C (tk_T p v K 4 (x) st).2 I' ∧ hg_ft I' I)) := by
  refine hg_mc k_T_find (Nat.le_of_ble_eq_true rfl) ?_
  show hg_WP l E _ Y_T_find 0 0 0 [some (.ref (hg_ad E 13 0)), some (.int 1), some (.int 4), some (.int x), some (.int (nI dl)), none, none, none] [] (I, Lg, Rf, X) _
  refine hg_iload2 d_T_find_0 ?_
  refine hg_istore5 d_T_find_1 rfl ?_
  refine hg_iconst (v := 0) d_T_find_3 (by decide) ?_
  refine hg_istore6 d_T_find_4 rfl ?_
  refine hg_iload6 d_T_find_6 ?_
  refine hg_iconst (v := 3) d_T_find_8 (by decide) ?_
  refine hg_icmp_ge (tgt := 60) d_T_find_9 (by decide) (fun h_1 => absurd h_1 (by decide)) (fun h_1 => ?_)
  refine hg_iload5 d_T_find_12 ?_
  refine hg_if_lt (tgt := 60) d_T_find_14 (by decide) (fun h_2 => absurd h_2 (by decide)) (fun h_2 => ?_)
  refine hg_gets d_T_find_17 s_T_43 (fun s h => hx_bodiesZ h) ?_
  refine hg_iconst (v := 3) d_T_find_20 (by decide) ?_
  refine hg_iload5 d_T_find_21 ?_
  refine hg_imul d_T_find_23 ?_
  refine hg_eq1 (y := 12) (by decide) ?_
  refine hg_iload1 d_T_find_24 ?_
  refine hg_iadd d_T_find_25 ?_
  refine hg_eq1 (y := 13) (by decide) ?_
  refine hg_ialdT_n (j := 13) d_T_find_26 (fun s h => hx_bodiesT h) (by omega) (by decide) ?_
  refine hg_eq1 (y := 51) (by decide) ?_
  refine hg_istore7 d_T_find_27 rfl ?_
  refine hg_iload7 d_T_find_29 ?_
  refine hg_if_eq (tgt := 46) d_T_find_31 (by decide) (fun h_3 => absurd h_3 (by decide)) (fun h_3 => ?_)
  refine hg_aload0 d_T_find_34 ?_
  refine hg_iload7 d_T_find_35 ?_
  refine hg_iload5 d_T_find_37 ?_
  refine hg_iload3 d_T_find_39 ?_
  refine hg_iload4 d_T_find_40 ?_
  refine hg_cVi d_T_find_42 l_T_46 rfl rfl (hX.lt (n := 1) ⟨by decide, by decide⟩ rfl (by omega)) rfl (Nat.le_of_ble_eq_true rfl) (m_run51 (x := x) (st := st) (dl := dl) hX hR hC hK hKk (by omega) (by omega)) rfl ?_
  rintro _ _ ⟨I1, rfl, rfl, hC1, hf1⟩
  refine hg_ireturn d_T_find_45 rfl rfl ?_
  exact ⟨I1, rfl, rfl, hC1, hf1⟩

theorem m_run70 {p K dl : Nat} {v x : Int32} {st : tk_S} (hX : hg_XS T X) (hR : hg_SR T Rf) (hC : tk_C st I) (hK : tk_K p v K I) (hKk : K ≤ 6) (hd : dl ≤ 32) (hr : st.1 ≤ 930) : hg_MC l E (d + 7) Y_T_run 0 0 [.ref (hg_ad E 13 0), .int 70, .int 6, .int x, .int (nI dl)] (I, Lg, Rf, X) (hg_i (fun r M' => ∃ I' : Nat → Nat → Nat → Int32, r = (tk_T p v K 6 x st).1 ∧ M' = (I', Lg, Rf, X) ∧ tk_C (tk_T p v K 6 x st).2 I' ∧ hg_ft I' I)) := by
  refine hg_mc k_T_run (Nat.le_of_ble_eq_true rfl) ?_
  show hg_WP l E _ Y_T_run 0 0 0 [some (.ref (hg_ad E 13 0)), some (.int 70), some (.int 6), some (.int x), some (.int (nI dl)), none, none] [] (I, Lg, Rf, X) _
  refine hg_iload4 d_T_run_0 ?_
  refine hg_bipush (v := 40) d_T_run_2 (by decide) ?_
  refine hg_icmp_ne (tgt := 9) d_T_run_4 (by decide) (fun h_1 => ?_) (fun h_1 => absurd (fun (e : nI dl = nI 40) => by have := (nI_eq (by omega) (by decide)).mp e; omega) h_1)
  refine hg_aload0 d_T_run_9 ?_
  refine hg_getI d_T_run_10 f_T_16 rfl rfl (hX.lt (n := 1) ⟨by decide, by decide⟩ rfl (by omega)) ?_
  refine hg_eq1 (y := nI st.1) (hC.1) ?_
  refine hg_bipush (v := 20) d_T_run_13 (by decide) ?_
  have K1 : ∀ I1 : Nat → Nat → Nat → Int32, tk_C (tk_r 70 st) I1 → hg_ft I1 I → hg_WP l E (d + 6) Y_T_run 0 0 38 [some (.ref (hg_ad E 13 0)), some (.int 70), some (.int 6), some (.int x), some (.int (nI dl)), none, none] [] (I1, Lg, Rf, X) (hg_i (fun r M' => ∃ I' : Nat → Nat → Nat → Int32, r = (tk_T p v K 6 x st).1 ∧ M' = (I', Lg, Rf, X) ∧ tk_C (tk_T p v K 6 x st).2 I' ∧ hg_ft I' I)) := by
    intro I1 hC1 hf1
    have hK1 := hK.ft hf1
    refine hg_gets d_T_run_38 s_T_13 (fun s h => hx_aboveZ h) ?_
    refine hg_iload2 d_T_run_41 ?_
    refine hg_ialdT_n (j := 6) d_T_run_42 (fun s h => hx_aboveT h) (by omega) (by decide) ?_
    refine hg_eq1 (y := 3) (by decide) ?_
    refine hg_istore5 d_T_run_43 rfl ?_
    refine hg_iload4 d_T_run_45 ?_
    refine hg_iconst (v := 1) d_T_run_47 (by decide) ?_
    refine hg_iadd d_T_run_48 ?_
    refine hg_eq1 (y := nI (dl + 1)) (nI_add _ _) ?_
    refine hg_istore6 d_T_run_49 rfl ?_
    refine hg_iload1 d_T_run_51 ?_
    refine hg_look (off := 232) (tgt := 284) d_T_run_52 (by decide) (by decide) (by decide) ?_
    refine hg_aload0 d_T_run_284 ?_
    refine hg_iconst (v := 1) d_T_run_285 (by decide) ?_
    refine hg_iload5 d_T_run_286 ?_
    refine hg_iload3 d_T_run_288 ?_
    refine hg_iload6 d_T_run_289 ?_
    have hr0 : (tk_r 70 st).1 ≤ 940 := by have e : (tk_r 70 st).1 = st.1 + 1 := rfl; omega
    refine hg_cVi d_T_run_291 l_T_39 rfl rfl (hX.lt (n := 1) ⟨by decide, by decide⟩ rfl (by omega)) rfl (Nat.le_of_ble_eq_true rfl) (m_find_T3 (x := x) (st := tk_r 70 st) (dl := (dl + 1)) hX hR hC1 hK1 hKk (by omega) hr0) rfl ?_
    rintro _ _ ⟨I2, rfl, rfl, hC2, hf2⟩
    have hK2 := hK1.ft hf2
    have hg2 := hf2.tr hf1
    refine hg_aload0 d_T_run_294 ?_
    refine hg_iconst (v := 0) d_T_run_295 (by decide) ?_
    refine hg_iload5 d_T_run_296 ?_
    refine hg_iconst (v := 2) d_T_run_298 (by decide) ?_
    refine hg_iload6 d_T_run_299 ?_
    have hr0 : ((tk_T p v K 3 (x) (tk_r 70 st)).2).1 ≤ 980 := by have := tk_T_le p v K 3 (x) (tk_r 70 st); have e : (tk_r 70 st).1 = st.1 + 1 := rfl; omega
    refine hg_cVi d_T_run_301 l_T_39 rfl rfl (hX.lt (n := 1) ⟨by decide, by decide⟩ rfl (by omega)) rfl (Nat.le_of_ble_eq_true rfl) (m_find_A3 (x := 2) (st := (tk_T p v K 3 (x) (tk_r 70 st)).2) (dl := (dl + 1)) hX hR hC2 hK2 hKk (by omega) hr0) rfl ?_
    rintro _ _ ⟨I3, rfl, rfl, hC3, hf3⟩
    have hK3 := hK2.ft hf3
    have hg3 := hf3.tr hg2
    refine hg_iadd d_T_run_304 ?_
    refine hg_ireturn d_T_run_305 rfl rfl ?_
    exact ⟨I3, rfl, rfl, hC3, hg3⟩
  refine hg_icmp_ge (tgt := 28) d_T_run_15 (by decide) (fun h20 => ?_) (fun h20 => ?_)
  · have h20 : ¬ st.1 < 20 := by have z := h20; rw [show (20 : Int32) = nI 20 from rfl, nI_leI (by decide) (by omega)] at z; omega
    refine hg_aload0 d_T_run_28 ?_
    refine hg_dup d_T_run_29 rfl ?_
    refine hg_getI d_T_run_30 f_T_16 rfl rfl (hX.lt (n := 1) ⟨by decide, by decide⟩ rfl (by omega)) ?_
    refine hg_eq1 (y := nI st.1) (hC.1) ?_
    refine hg_iconst (v := 1) d_T_run_33 (by decide) ?_
    refine hg_iadd d_T_run_34 ?_
    refine hg_eq1 (y := nI (st.1 + 1)) (nI_add _ _) ?_
    refine hg_putI d_T_run_35 f_T_16 rfl rfl (Or.inl rfl) rfl rfl (hX.lt (n := 1) ⟨by decide, by decide⟩ rfl (by omega)) ?_
    exact K1 _ (hC.r2 (b := 70) h20).1 (hC.r2 (b := 70) h20).2
  · have h20 : st.1 < 20 := by have z := h20; rw [show (20 : Int32) = nI 20 from rfl, nI_leI (by decide) (by omega)] at z; omega
    refine hg_aload0 d_T_run_18 ?_
    refine hg_getR d_T_run_19 f_T_9 rfl rfl (hX.lt (n := 1) ⟨by decide, by decide⟩ rfl (by omega)) hR.t0 ?_
    refine hg_aload0 d_T_run_22 ?_
    refine hg_getI d_T_run_23 f_T_16 rfl rfl (hX.lt (n := 1) ⟨by decide, by decide⟩ rfl (by omega)) ?_
    refine hg_eq1 (y := nI st.1) (hC.1) ?_
    refine hg_iload1 d_T_run_26 ?_
    refine hg_iast_n (j := st.1) d_T_run_27 rfl rfl (hX.lt (n := 1) ⟨by decide, by decide⟩ rfl (by omega)) (hX.jn (n := 20) (by decide) rfl (by omega)) ?_
    refine hg_aload0 d_T_run_28 ?_
    refine hg_dup d_T_run_29 rfl ?_
    refine hg_getI d_T_run_30 f_T_16 rfl rfl (hX.lt (n := 1) ⟨by decide, by decide⟩ rfl (by omega)) ?_
    refine hg_eq1 (y := I 13 0 1) (by simp [hg_u3]) ?_
    refine hg_eq1 (y := nI st.1) (hC.1) ?_
    refine hg_iconst (v := 1) d_T_run_33 (by decide) ?_
    refine hg_iadd d_T_run_34 ?_
    refine hg_eq1 (y := nI (st.1 + 1)) (nI_add _ _) ?_
    refine hg_putI d_T_run_35 f_T_16 rfl rfl (Or.inl rfl) rfl rfl (hX.lt (n := 1) ⟨by decide, by decide⟩ rfl (by omega)) ?_
    exact K1 _ (hC.r h20).1 (hC.r h20).2

theorem m_find_T6 {p K dl : Nat} {v x : Int32} {st : tk_S} (hX : hg_XS T X) (hR : hg_SR T Rf) (hC : tk_C st I) (hK : tk_K p v K I) (hKk : K ≤ 6) (hd : dl ≤ 31) (hr : st.1 ≤ 920) : hg_MC l E (d + 8) Y_T_find 0 0 [.ref (hg_ad E 13 0), .int 1, .int 6, .int x, .int (nI dl)] (I, Lg, Rf, X) (hg_i (fun r M' => ∃ I' : Nat → Nat → Nat → Int32, r = (tk_T p v K 6 (x) st).1 ∧ M' = (I', Lg, Rf, X) ∧ tk_C (tk_T p v K 6 (x) st).2 I' ∧ hg_ft I' I)) := by
  refine hg_mc k_T_find (Nat.le_of_ble_eq_true rfl) ?_
  show hg_WP l E _ Y_T_find 0 0 0 [some (.ref (hg_ad E 13 0)), some (.int 1), some (.int 6), some (.int x), some (.int (nI dl)), none, none, none] [] (I, Lg, Rf, X) _
  refine hg_iload2 d_T_find_0 ?_
  refine hg_istore5 d_T_find_1 rfl ?_
  refine hg_iconst (v := 0) d_T_find_3 (by decide) ?_
  refine hg_istore6 d_T_find_4 rfl ?_
  refine hg_iload6 d_T_find_6 ?_
  refine hg_iconst (v := 3) d_T_find_8 (by decide) ?_
  refine hg_icmp_ge (tgt := 60) d_T_find_9 (by decide) (fun h_1 => absurd h_1 (by decide)) (fun h_1 => ?_)
  refine hg_iload5 d_T_find_12 ?_
  refine hg_if_lt (tgt := 60) d_T_find_14 (by decide) (fun h_2 => absurd h_2 (by decide)) (fun h_2 => ?_)
  refine hg_gets d_T_find_17 s_T_43 (fun s h => hx_bodiesZ h) ?_
  refine hg_iconst (v := 3) d_T_find_20 (by decide) ?_
  refine hg_iload5 d_T_find_21 ?_
  refine hg_imul d_T_find_23 ?_
  refine hg_eq1 (y := 18) (by decide) ?_
  refine hg_iload1 d_T_find_24 ?_
  refine hg_iadd d_T_find_25 ?_
  refine hg_eq1 (y := 19) (by decide) ?_
  refine hg_ialdT_n (j := 19) d_T_find_26 (fun s h => hx_bodiesT h) (by omega) (by decide) ?_
  refine hg_eq1 (y := 70) (by decide) ?_
  refine hg_istore7 d_T_find_27 rfl ?_
  refine hg_iload7 d_T_find_29 ?_
  refine hg_if_eq (tgt := 46) d_T_find_31 (by decide) (fun h_3 => absurd h_3 (by decide)) (fun h_3 => ?_)
  refine hg_aload0 d_T_find_34 ?_
  refine hg_iload7 d_T_find_35 ?_
  refine hg_iload5 d_T_find_37 ?_
  refine hg_iload3 d_T_find_39 ?_
  refine hg_iload4 d_T_find_40 ?_
  refine hg_cVi d_T_find_42 l_T_46 rfl rfl (hX.lt (n := 1) ⟨by decide, by decide⟩ rfl (by omega)) rfl (Nat.le_of_ble_eq_true rfl) (m_run70 (x := x) (st := st) (dl := dl) hX hR hC hK hKk (by omega) (by omega)) rfl ?_
  rintro _ _ ⟨I1, rfl, rfl, hC1, hf1⟩
  refine hg_ireturn d_T_find_45 rfl rfl ?_
  exact ⟨I1, rfl, rfl, hC1, hf1⟩

theorem m_find_T {k p K dl : Nat} {v x : Int32} {st : tk_S} (hX : hg_XS T X) (hR : hg_SR T Rf) (hC : tk_C st I) (hK : tk_K p v K I) (hk : k ≤ 6) (hKk : K ≤ 6) (hd : dl ≤ 29) (hr : st.1 ≤ 900) : hg_MC l E (d + 10) Y_T_find 0 0 [.ref (hg_ad E 13 0), .int 1, .int (nI k), .int x, .int (nI dl)] (I, Lg, Rf, X) (hg_i (fun r M' => ∃ I' : Nat → Nat → Nat → Int32, r = (tk_T p v K k (x) st).1 ∧ M' = (I', Lg, Rf, X) ∧ tk_C (tk_T p v K k (x) st).2 I' ∧ hg_ft I' I)) := by
  have h7 : k = 0 ∨ k = 1 ∨ k = 2 ∨ k = 3 ∨ k = 4 ∨ k = 5 ∨ k = 6 := by omega
  rcases h7 with rfl | rfl | rfl | rfl | rfl | rfl | rfl
  · exact m_find_T0 (d := d + 4) hX hR hC hK hKk (by omega) (by omega)
  · exact m_find_T1 (d := d + 2) hX hR hC hK hKk (by omega) (by omega)
  · exact m_find_T2 (d := d + 4) hX hR hC hK hKk (by omega) (by omega)
  · exact m_find_T3 (d := d + 4) hX hR hC hK hKk (by omega) (by omega)
  · exact m_find_T4 (d := d + 0) hX hR hC hK hKk (by omega) (by omega)
  · exact m_find_T5 (d := d + 4) hX hR hC hK hKk (by omega) (by omega)
  · exact m_find_T6 (d := d + 2) hX hR hC hK hKk (by omega) (by omega)
theorem m_run12 {p K dl : Nat} {v x : Int32} {st : tk_S} (hX : hg_XS T X) (hR : hg_SR T Rf) (hC : tk_C st I) (hK : tk_K p v K I) (hKk : K ≤ 6) (hd : dl ≤ 28) (hr : st.1 ≤ 890) : hg_MC l E (d + 11) Y_T_run 0 0 [.ref (hg_ad E 13 0), .int 12, .int 0, .int x, .int (nI dl)] (I, Lg, Rf, X) (hg_i (fun r M' => ∃ I' : Nat → Nat → Nat → Int32, r = (tk_L0 p v K x st).1 ∧ M' = (I', Lg, Rf, X) ∧ tk_C (tk_L0 p v K x st).2 I' ∧ hg_ft I' I)) := by
  refine hg_mc k_T_run (Nat.le_of_ble_eq_true rfl) ?_
  show hg_WP l E _ Y_T_run 0 0 0 [some (.ref (hg_ad E 13 0)), some (.int 12), some (.int 0), some (.int x), some (.int (nI dl)), none, none] [] (I, Lg, Rf, X) _
  refine hg_iload4 d_T_run_0 ?_
  refine hg_bipush (v := 40) d_T_run_2 (by decide) ?_
  refine hg_icmp_ne (tgt := 9) d_T_run_4 (by decide) (fun h_1 => ?_) (fun h_1 => absurd (fun (e : nI dl = nI 40) => by have := (nI_eq (by omega) (by decide)).mp e; omega) h_1)
  refine hg_aload0 d_T_run_9 ?_
  refine hg_getI d_T_run_10 f_T_16 rfl rfl (hX.lt (n := 1) ⟨by decide, by decide⟩ rfl (by omega)) ?_
  refine hg_eq1 (y := nI st.1) (hC.1) ?_
  refine hg_bipush (v := 20) d_T_run_13 (by decide) ?_
  have K1 : ∀ I1 : Nat → Nat → Nat → Int32, tk_C (tk_r 12 st) I1 → hg_ft I1 I → hg_WP l E (d + 10) Y_T_run 0 0 38 [some (.ref (hg_ad E 13 0)), some (.int 12), some (.int 0), some (.int x), some (.int (nI dl)), none, none] [] (I1, Lg, Rf, X) (hg_i (fun r M' => ∃ I' : Nat → Nat → Nat → Int32, r = (tk_L0 p v K x st).1 ∧ M' = (I', Lg, Rf, X) ∧ tk_C (tk_L0 p v K x st).2 I' ∧ hg_ft I' I)) := by
    intro I1 hC1 hf1
    have hK1 := hK.ft hf1
    refine hg_gets d_T_run_38 s_T_13 (fun s h => hx_aboveZ h) ?_
    refine hg_iload2 d_T_run_41 ?_
    refine hg_ialdT_n (j := 0) d_T_run_42 (fun s h => hx_aboveT h) (by omega) (by decide) ?_
    refine hg_eq1 (y := -1) (by decide) ?_
    refine hg_istore5 d_T_run_43 rfl ?_
    refine hg_iload4 d_T_run_45 ?_
    refine hg_iconst (v := 1) d_T_run_47 (by decide) ?_
    refine hg_iadd d_T_run_48 ?_
    refine hg_eq1 (y := nI (dl + 1)) (nI_add _ _) ?_
    refine hg_istore6 d_T_run_49 rfl ?_
    refine hg_iload1 d_T_run_51 ?_
    refine hg_look (off := 125) (tgt := 177) d_T_run_52 (by decide) (by decide) (by decide) ?_
    refine hg_aload0 d_T_run_177 ?_
    refine hg_iconst (v := 1) d_T_run_178 (by decide) ?_
    refine hg_aload0 d_T_run_179 ?_
    refine hg_getI d_T_run_180 f_T_34 rfl rfl (hX.lt (n := 1) ⟨by decide, by decide⟩ rfl (by omega)) ?_
    refine hg_eq1 (y := nI K) (hK1.2.1) ?_
    refine hg_iload3 d_T_run_183 ?_
    refine hg_iload6 d_T_run_184 ?_
    have hr0 : (tk_r 12 st).1 ≤ 900 := by have e : (tk_r 12 st).1 = st.1 + 1 := rfl; omega
    refine hg_cVi d_T_run_186 l_T_39 rfl rfl (hX.lt (n := 1) ⟨by decide, by decide⟩ rfl (by omega)) rfl (Nat.le_of_ble_eq_true rfl) (m_find_T (x := x) (st := tk_r 12 st) (dl := (dl + 1)) hX hR hC1 hK1 hKk hKk (by omega) hr0) rfl ?_
    rintro _ _ ⟨I2, rfl, rfl, hC2, hf2⟩
    have hK2 := hK1.ft hf2
    have hg2 := hf2.tr hf1
    refine hg_iconst (v := 2) d_T_run_189 (by decide) ?_
    refine hg_imul d_T_run_190 ?_
    refine hg_ireturn d_T_run_191 rfl rfl ?_
    exact ⟨I2, rfl, rfl, hC2, hg2⟩
  refine hg_icmp_ge (tgt := 28) d_T_run_15 (by decide) (fun h20 => ?_) (fun h20 => ?_)
  · have h20 : ¬ st.1 < 20 := by have z := h20; rw [show (20 : Int32) = nI 20 from rfl, nI_leI (by decide) (by omega)] at z; omega
    refine hg_aload0 d_T_run_28 ?_
    refine hg_dup d_T_run_29 rfl ?_
    refine hg_getI d_T_run_30 f_T_16 rfl rfl (hX.lt (n := 1) ⟨by decide, by decide⟩ rfl (by omega)) ?_
    refine hg_eq1 (y := nI st.1) (hC.1) ?_
    refine hg_iconst (v := 1) d_T_run_33 (by decide) ?_
    refine hg_iadd d_T_run_34 ?_
    refine hg_eq1 (y := nI (st.1 + 1)) (nI_add _ _) ?_
    refine hg_putI d_T_run_35 f_T_16 rfl rfl (Or.inl rfl) rfl rfl (hX.lt (n := 1) ⟨by decide, by decide⟩ rfl (by omega)) ?_
    exact K1 _ (hC.r2 (b := 12) h20).1 (hC.r2 (b := 12) h20).2
  · have h20 : st.1 < 20 := by have z := h20; rw [show (20 : Int32) = nI 20 from rfl, nI_leI (by decide) (by omega)] at z; omega
    refine hg_aload0 d_T_run_18 ?_
    refine hg_getR d_T_run_19 f_T_9 rfl rfl (hX.lt (n := 1) ⟨by decide, by decide⟩ rfl (by omega)) hR.t0 ?_
    refine hg_aload0 d_T_run_22 ?_
    refine hg_getI d_T_run_23 f_T_16 rfl rfl (hX.lt (n := 1) ⟨by decide, by decide⟩ rfl (by omega)) ?_
    refine hg_eq1 (y := nI st.1) (hC.1) ?_
    refine hg_iload1 d_T_run_26 ?_
    refine hg_iast_n (j := st.1) d_T_run_27 rfl rfl (hX.lt (n := 1) ⟨by decide, by decide⟩ rfl (by omega)) (hX.jn (n := 20) (by decide) rfl (by omega)) ?_
    refine hg_aload0 d_T_run_28 ?_
    refine hg_dup d_T_run_29 rfl ?_
    refine hg_getI d_T_run_30 f_T_16 rfl rfl (hX.lt (n := 1) ⟨by decide, by decide⟩ rfl (by omega)) ?_
    refine hg_eq1 (y := I 13 0 1) (by simp [hg_u3]) ?_
    refine hg_eq1 (y := nI st.1) (hC.1) ?_
    refine hg_iconst (v := 1) d_T_run_33 (by decide) ?_
    refine hg_iadd d_T_run_34 ?_
    refine hg_eq1 (y := nI (st.1 + 1)) (nI_add _ _) ?_
    refine hg_putI d_T_run_35 f_T_16 rfl rfl (Or.inl rfl) rfl rfl (hX.lt (n := 1) ⟨by decide, by decide⟩ rfl (by omega)) ?_
    exact K1 _ (hC.r h20).1 (hC.r h20).2

theorem m_find_L0 {p K dl : Nat} {v x : Int32} {st : tk_S} (hX : hg_XS T X) (hR : hg_SR T Rf) (hC : tk_C st I) (hK : tk_K p v K I) (hKk : K ≤ 6) (hd : dl ≤ 27) (hr : st.1 ≤ 880) : hg_MC l E (d + 12) Y_T_find 0 0 [.ref (hg_ad E 13 0), .int 2, .int 0, .int x, .int (nI dl)] (I, Lg, Rf, X) (hg_i (fun r M' => ∃ I' : Nat → Nat → Nat → Int32, r = (tk_L p v K 0 (x) st).1 ∧ M' = (I', Lg, Rf, X) ∧ tk_C (tk_L p v K 0 (x) st).2 I' ∧ hg_ft I' I)) := by
  refine hg_mc k_T_find (Nat.le_of_ble_eq_true rfl) ?_
  show hg_WP l E _ Y_T_find 0 0 0 [some (.ref (hg_ad E 13 0)), some (.int 2), some (.int 0), some (.int x), some (.int (nI dl)), none, none, none] [] (I, Lg, Rf, X) _
  refine hg_iload2 d_T_find_0 ?_
  refine hg_istore5 d_T_find_1 rfl ?_
  refine hg_iconst (v := 0) d_T_find_3 (by decide) ?_
  refine hg_istore6 d_T_find_4 rfl ?_
  refine hg_iload6 d_T_find_6 ?_
  refine hg_iconst (v := 3) d_T_find_8 (by decide) ?_
  refine hg_icmp_ge (tgt := 60) d_T_find_9 (by decide) (fun h_1 => absurd h_1 (by decide)) (fun h_1 => ?_)
  refine hg_iload5 d_T_find_12 ?_
  refine hg_if_lt (tgt := 60) d_T_find_14 (by decide) (fun h_2 => absurd h_2 (by decide)) (fun h_2 => ?_)
  refine hg_gets d_T_find_17 s_T_43 (fun s h => hx_bodiesZ h) ?_
  refine hg_iconst (v := 3) d_T_find_20 (by decide) ?_
  refine hg_iload5 d_T_find_21 ?_
  refine hg_imul d_T_find_23 ?_
  refine hg_eq1 (y := 0) (by decide) ?_
  refine hg_iload1 d_T_find_24 ?_
  refine hg_iadd d_T_find_25 ?_
  refine hg_eq1 (y := 2) (by decide) ?_
  refine hg_ialdT_n (j := 2) d_T_find_26 (fun s h => hx_bodiesT h) (by omega) (by decide) ?_
  refine hg_eq1 (y := 12) (by decide) ?_
  refine hg_istore7 d_T_find_27 rfl ?_
  refine hg_iload7 d_T_find_29 ?_
  refine hg_if_eq (tgt := 46) d_T_find_31 (by decide) (fun h_3 => absurd h_3 (by decide)) (fun h_3 => ?_)
  refine hg_aload0 d_T_find_34 ?_
  refine hg_iload7 d_T_find_35 ?_
  refine hg_iload5 d_T_find_37 ?_
  refine hg_iload3 d_T_find_39 ?_
  refine hg_iload4 d_T_find_40 ?_
  refine hg_cVi d_T_find_42 l_T_46 rfl rfl (hX.lt (n := 1) ⟨by decide, by decide⟩ rfl (by omega)) rfl (Nat.le_of_ble_eq_true rfl) (m_run12 (x := x) (st := st) (dl := dl) hX hR hC hK hKk (by omega) (by omega)) rfl ?_
  rintro _ _ ⟨I1, rfl, rfl, hC1, hf1⟩
  refine hg_ireturn d_T_find_45 rfl rfl ?_
  exact ⟨I1, rfl, rfl, hC1, hf1⟩

theorem m_find_L1 {p K dl : Nat} {v x : Int32} {st : tk_S} (hX : hg_XS T X) (hR : hg_SR T Rf) (hC : tk_C st I) (hK : tk_K p v K I) (hKk : K ≤ 6) (hd : dl ≤ 27) (hr : st.1 ≤ 880) : hg_MC l E (d + 12) Y_T_find 0 0 [.ref (hg_ad E 13 0), .int 2, .int 1, .int x, .int (nI dl)] (I, Lg, Rf, X) (hg_i (fun r M' => ∃ I' : Nat → Nat → Nat → Int32, r = (tk_L p v K 1 (x) st).1 ∧ M' = (I', Lg, Rf, X) ∧ tk_C (tk_L p v K 1 (x) st).2 I' ∧ hg_ft I' I)) := by
  refine hg_mc k_T_find (Nat.le_of_ble_eq_true rfl) ?_
  show hg_WP l E _ Y_T_find 0 0 0 [some (.ref (hg_ad E 13 0)), some (.int 2), some (.int 1), some (.int x), some (.int (nI dl)), none, none, none] [] (I, Lg, Rf, X) _
  refine hg_iload2 d_T_find_0 ?_
  refine hg_istore5 d_T_find_1 rfl ?_
  refine hg_iconst (v := 0) d_T_find_3 (by decide) ?_
  refine hg_istore6 d_T_find_4 rfl ?_
  refine hg_iload6 d_T_find_6 ?_
  refine hg_iconst (v := 3) d_T_find_8 (by decide) ?_
  refine hg_icmp_ge (tgt := 60) d_T_find_9 (by decide) (fun h_1 => absurd h_1 (by decide)) (fun h_1 => ?_)
  refine hg_iload5 d_T_find_12 ?_
  refine hg_if_lt (tgt := 60) d_T_find_14 (by decide) (fun h_2 => absurd h_2 (by decide)) (fun h_2 => ?_)
  refine hg_gets d_T_find_17 s_T_43 (fun s h => hx_bodiesZ h) ?_
  refine hg_iconst (v := 3) d_T_find_20 (by decide) ?_
  refine hg_iload5 d_T_find_21 ?_
  refine hg_imul d_T_find_23 ?_
  refine hg_eq1 (y := 3) (by decide) ?_
  refine hg_iload1 d_T_find_24 ?_
  refine hg_iadd d_T_find_25 ?_
  refine hg_eq1 (y := 5) (by decide) ?_
  refine hg_ialdT_n (j := 5) d_T_find_26 (fun s h => hx_bodiesT h) (by omega) (by decide) ?_
  refine hg_eq1 (y := 0) (by decide) ?_
  refine hg_istore7 d_T_find_27 rfl ?_
  refine hg_iload7 d_T_find_29 ?_
  refine hg_if_eq (tgt := 46) d_T_find_31 (by decide) (fun h_3 => ?_) (fun h_3 => absurd (by decide) h_3)
  refine hg_gets d_T_find_46 s_T_13 (fun s h => hx_aboveZ h) ?_
  refine hg_iload5 d_T_find_49 ?_
  refine hg_ialdT_n (j := 1) d_T_find_51 (fun s h => hx_aboveT h) (by omega) (by decide) ?_
  refine hg_eq1 (y := 0) (by decide) ?_
  refine hg_istore5 d_T_find_52 rfl ?_
  refine hg_iinc6 (v := 1) d_T_find_54 rfl (by decide) ?_
  refine hg_goto (tgt := 6) d_T_find_57 (by decide) ?_
  refine hg_iload6 d_T_find_6 ?_
  refine hg_iconst (v := 3) d_T_find_8 (by decide) ?_
  refine hg_icmp_ge (tgt := 60) d_T_find_9 (by decide) (fun h_4 => absurd h_4 (by decide)) (fun h_4 => ?_)
  refine hg_iload5 d_T_find_12 ?_
  refine hg_if_lt (tgt := 60) d_T_find_14 (by decide) (fun h_5 => absurd h_5 (by decide)) (fun h_5 => ?_)
  refine hg_gets d_T_find_17 s_T_43 (fun s h => hx_bodiesZ h) ?_
  refine hg_iconst (v := 3) d_T_find_20 (by decide) ?_
  refine hg_iload5 d_T_find_21 ?_
  refine hg_imul d_T_find_23 ?_
  refine hg_eq1 (y := 0) (by decide) ?_
  refine hg_iload1 d_T_find_24 ?_
  refine hg_iadd d_T_find_25 ?_
  refine hg_eq1 (y := 2) (by decide) ?_
  refine hg_ialdT_n (j := 2) d_T_find_26 (fun s h => hx_bodiesT h) (by omega) (by decide) ?_
  refine hg_eq1 (y := 12) (by decide) ?_
  refine hg_istore7 d_T_find_27 rfl ?_
  refine hg_iload7 d_T_find_29 ?_
  refine hg_if_eq (tgt := 46) d_T_find_31 (by decide) (fun h_6 => absurd h_6 (by decide)) (fun h_6 => ?_)
  refine hg_aload0 d_T_find_34 ?_
  refine hg_iload7 d_T_find_35 ?_
  refine hg_iload5 d_T_find_37 ?_
  refine hg_iload3 d_T_find_39 ?_
  refine hg_iload4 d_T_find_40 ?_
  refine hg_cVi d_T_find_42 l_T_46 rfl rfl (hX.lt (n := 1) ⟨by decide, by decide⟩ rfl (by omega)) rfl (Nat.le_of_ble_eq_true rfl) (m_run12 (x := x) (st := st) (dl := dl) hX hR hC hK hKk (by omega) (by omega)) rfl ?_
  rintro _ _ ⟨I1, rfl, rfl, hC1, hf1⟩
  refine hg_ireturn d_T_find_45 rfl rfl ?_
  exact ⟨I1, rfl, rfl, hC1, hf1⟩

theorem m_find_L2 {p K dl : Nat} {v x : Int32} {st : tk_S} (hX : hg_XS T X) (hR : hg_SR T Rf) (hC : tk_C st I) (hK : tk_K p v K I) (hKk : K ≤ 6) (hd : dl ≤ 27) (hr : st.1 ≤ 880) : hg_MC l E (d + 12) Y_T_find 0 0 [.ref (hg_ad E 13 0), .int 2, .int 2, .int x, .int (nI dl)] (I, Lg, Rf, X) (hg_i (fun r M' => ∃ I' : Nat → Nat → Nat → Int32, r = (tk_L p v K 2 (x) st).1 ∧ M' = (I', Lg, Rf, X) ∧ tk_C (tk_L p v K 2 (x) st).2 I' ∧ hg_ft I' I)) := by
  refine hg_mc k_T_find (Nat.le_of_ble_eq_true rfl) ?_
  show hg_WP l E _ Y_T_find 0 0 0 [some (.ref (hg_ad E 13 0)), some (.int 2), some (.int 2), some (.int x), some (.int (nI dl)), none, none, none] [] (I, Lg, Rf, X) _
  refine hg_iload2 d_T_find_0 ?_
  refine hg_istore5 d_T_find_1 rfl ?_
  refine hg_iconst (v := 0) d_T_find_3 (by decide) ?_
  refine hg_istore6 d_T_find_4 rfl ?_
  refine hg_iload6 d_T_find_6 ?_
  refine hg_iconst (v := 3) d_T_find_8 (by decide) ?_
  refine hg_icmp_ge (tgt := 60) d_T_find_9 (by decide) (fun h_1 => absurd h_1 (by decide)) (fun h_1 => ?_)
  refine hg_iload5 d_T_find_12 ?_
  refine hg_if_lt (tgt := 60) d_T_find_14 (by decide) (fun h_2 => absurd h_2 (by decide)) (fun h_2 => ?_)
  refine hg_gets d_T_find_17 s_T_43 (fun s h => hx_bodiesZ h) ?_
  refine hg_iconst (v := 3) d_T_find_20 (by decide) ?_
  refine hg_iload5 d_T_find_21 ?_
  refine hg_imul d_T_find_23 ?_
  refine hg_eq1 (y := 6) (by decide) ?_
  refine hg_iload1 d_T_find_24 ?_
  refine hg_iadd d_T_find_25 ?_
  refine hg_eq1 (y := 8) (by decide) ?_
  refine hg_ialdT_n (j := 8) d_T_find_26 (fun s h => hx_bodiesT h) (by omega) (by decide) ?_
  refine hg_eq1 (y := 0) (by decide) ?_
  refine hg_istore7 d_T_find_27 rfl ?_
  refine hg_iload7 d_T_find_29 ?_
  refine hg_if_eq (tgt := 46) d_T_find_31 (by decide) (fun h_3 => ?_) (fun h_3 => absurd (by decide) h_3)
  refine hg_gets d_T_find_46 s_T_13 (fun s h => hx_aboveZ h) ?_
  refine hg_iload5 d_T_find_49 ?_
  refine hg_ialdT_n (j := 2) d_T_find_51 (fun s h => hx_aboveT h) (by omega) (by decide) ?_
  refine hg_eq1 (y := 0) (by decide) ?_
  refine hg_istore5 d_T_find_52 rfl ?_
  refine hg_iinc6 (v := 1) d_T_find_54 rfl (by decide) ?_
  refine hg_goto (tgt := 6) d_T_find_57 (by decide) ?_
  refine hg_iload6 d_T_find_6 ?_
  refine hg_iconst (v := 3) d_T_find_8 (by decide) ?_
  refine hg_icmp_ge (tgt := 60) d_T_find_9 (by decide) (fun h_4 => absurd h_4 (by decide)) (fun h_4 => ?_)
  refine hg_iload5 d_T_find_12 ?_
  refine hg_if_lt (tgt := 60) d_T_find_14 (by decide) (fun h_5 => absurd h_5 (by decide)) (fun h_5 => ?_)
  refine hg_gets d_T_find_17 s_T_43 (fun s h => hx_bodiesZ h) ?_
  refine hg_iconst (v := 3) d_T_find_20 (by decide) ?_
  refine hg_iload5 d_T_find_21 ?_
  refine hg_imul d_T_find_23 ?_
  refine hg_eq1 (y := 0) (by decide) ?_
  refine hg_iload1 d_T_find_24 ?_
  refine hg_iadd d_T_find_25 ?_
  refine hg_eq1 (y := 2) (by decide) ?_
  refine hg_ialdT_n (j := 2) d_T_find_26 (fun s h => hx_bodiesT h) (by omega) (by decide) ?_
  refine hg_eq1 (y := 12) (by decide) ?_
  refine hg_istore7 d_T_find_27 rfl ?_
  refine hg_iload7 d_T_find_29 ?_
  refine hg_if_eq (tgt := 46) d_T_find_31 (by decide) (fun h_6 => absurd h_6 (by decide)) (fun h_6 => ?_)
  refine hg_aload0 d_T_find_34 ?_
  refine hg_iload7 d_T_find_35 ?_
  refine hg_iload5 d_T_find_37 ?_
  refine hg_iload3 d_T_find_39 ?_
  refine hg_iload4 d_T_find_40 ?_
  refine hg_cVi d_T_find_42 l_T_46 rfl rfl (hX.lt (n := 1) ⟨by decide, by decide⟩ rfl (by omega)) rfl (Nat.le_of_ble_eq_true rfl) (m_run12 (x := x) (st := st) (dl := dl) hX hR hC hK hKk (by omega) (by omega)) rfl ?_
  rintro _ _ ⟨I1, rfl, rfl, hC1, hf1⟩
  refine hg_ireturn d_T_find_45 rfl rfl ?_
  exact ⟨I1, rfl, rfl, hC1, hf1⟩

theorem m_find_L4 {p K dl : Nat} {v x : Int32} {st : tk_S} (hX : hg_XS T X) (hR : hg_SR T Rf) (hC : tk_C st I) (hK : tk_K p v K I) (hKk : K ≤ 6) (hd : dl ≤ 27) (hr : st.1 ≤ 880) : hg_MC l E (d + 12) Y_T_find 0 0 [.ref (hg_ad E 13 0), .int 2, .int 4, .int x, .int (nI dl)] (I, Lg, Rf, X) (hg_i (fun r M' => ∃ I' : Nat → Nat → Nat → Int32, r = (tk_L p v K 4 (x) st).1 ∧ M' = (I', Lg, Rf, X) ∧ tk_C (tk_L p v K 4 (x) st).2 I' ∧ hg_ft I' I)) := by
  refine hg_mc k_T_find (Nat.le_of_ble_eq_true rfl) ?_
  show hg_WP l E _ Y_T_find 0 0 0 [some (.ref (hg_ad E 13 0)), some (.int 2), some (.int 4), some (.int x), some (.int (nI dl)), none, none, none] [] (I, Lg, Rf, X) _
  refine hg_iload2 d_T_find_0 ?_
  refine hg_istore5 d_T_find_1 rfl ?_
  refine hg_iconst (v := 0) d_T_find_3 (by decide) ?_
  refine hg_istore6 d_T_find_4 rfl ?_
  refine hg_iload6 d_T_find_6 ?_
  refine hg_iconst (v := 3) d_T_find_8 (by decide) ?_
  refine hg_icmp_ge (tgt := 60) d_T_find_9 (by decide) (fun h_1 => absurd h_1 (by decide)) (fun h_1 => ?_)
  refine hg_iload5 d_T_find_12 ?_
  refine hg_if_lt (tgt := 60) d_T_find_14 (by decide) (fun h_2 => absurd h_2 (by decide)) (fun h_2 => ?_)
  refine hg_gets d_T_find_17 s_T_43 (fun s h => hx_bodiesZ h) ?_
  refine hg_iconst (v := 3) d_T_find_20 (by decide) ?_
  refine hg_iload5 d_T_find_21 ?_
  refine hg_imul d_T_find_23 ?_
  refine hg_eq1 (y := 12) (by decide) ?_
  refine hg_iload1 d_T_find_24 ?_
  refine hg_iadd d_T_find_25 ?_
  refine hg_eq1 (y := 14) (by decide) ?_
  refine hg_ialdT_n (j := 14) d_T_find_26 (fun s h => hx_bodiesT h) (by omega) (by decide) ?_
  refine hg_eq1 (y := 0) (by decide) ?_
  refine hg_istore7 d_T_find_27 rfl ?_
  refine hg_iload7 d_T_find_29 ?_
  refine hg_if_eq (tgt := 46) d_T_find_31 (by decide) (fun h_3 => ?_) (fun h_3 => absurd (by decide) h_3)
  refine hg_gets d_T_find_46 s_T_13 (fun s h => hx_aboveZ h) ?_
  refine hg_iload5 d_T_find_49 ?_
  refine hg_ialdT_n (j := 4) d_T_find_51 (fun s h => hx_aboveT h) (by omega) (by decide) ?_
  refine hg_eq1 (y := 1) (by decide) ?_
  refine hg_istore5 d_T_find_52 rfl ?_
  refine hg_iinc6 (v := 1) d_T_find_54 rfl (by decide) ?_
  refine hg_goto (tgt := 6) d_T_find_57 (by decide) ?_
  refine hg_iload6 d_T_find_6 ?_
  refine hg_iconst (v := 3) d_T_find_8 (by decide) ?_
  refine hg_icmp_ge (tgt := 60) d_T_find_9 (by decide) (fun h_4 => absurd h_4 (by decide)) (fun h_4 => ?_)
  refine hg_iload5 d_T_find_12 ?_
  refine hg_if_lt (tgt := 60) d_T_find_14 (by decide) (fun h_5 => absurd h_5 (by decide)) (fun h_5 => ?_)
  refine hg_gets d_T_find_17 s_T_43 (fun s h => hx_bodiesZ h) ?_
  refine hg_iconst (v := 3) d_T_find_20 (by decide) ?_
  refine hg_iload5 d_T_find_21 ?_
  refine hg_imul d_T_find_23 ?_
  refine hg_eq1 (y := 3) (by decide) ?_
  refine hg_iload1 d_T_find_24 ?_
  refine hg_iadd d_T_find_25 ?_
  refine hg_eq1 (y := 5) (by decide) ?_
  refine hg_ialdT_n (j := 5) d_T_find_26 (fun s h => hx_bodiesT h) (by omega) (by decide) ?_
  refine hg_eq1 (y := 0) (by decide) ?_
  refine hg_istore7 d_T_find_27 rfl ?_
  refine hg_iload7 d_T_find_29 ?_
  refine hg_if_eq (tgt := 46) d_T_find_31 (by decide) (fun h_6 => ?_) (fun h_6 => absurd (by decide) h_6)
  refine hg_gets d_T_find_46 s_T_13 (fun s h => hx_aboveZ h) ?_
  refine hg_iload5 d_T_find_49 ?_
  refine hg_ialdT_n (j := 1) d_T_find_51 (fun s h => hx_aboveT h) (by omega) (by decide) ?_
  refine hg_eq1 (y := 0) (by decide) ?_
  refine hg_istore5 d_T_find_52 rfl ?_
  refine hg_iinc6 (v := 2) d_T_find_54 rfl (by decide) ?_
  refine hg_goto (tgt := 6) d_T_find_57 (by decide) ?_
  refine hg_iload6 d_T_find_6 ?_
  refine hg_iconst (v := 3) d_T_find_8 (by decide) ?_
  refine hg_icmp_ge (tgt := 60) d_T_find_9 (by decide) (fun h_7 => absurd h_7 (by decide)) (fun h_7 => ?_)
  refine hg_iload5 d_T_find_12 ?_
  refine hg_if_lt (tgt := 60) d_T_find_14 (by decide) (fun h_8 => absurd h_8 (by decide)) (fun h_8 => ?_)
  refine hg_gets d_T_find_17 s_T_43 (fun s h => hx_bodiesZ h) ?_
  refine hg_iconst (v := 3) d_T_find_20 (by decide) ?_
  refine hg_iload5 d_T_find_21 ?_
  refine hg_imul d_T_find_23 ?_
  refine hg_eq1 (y := 0) (by decide) ?_
  refine hg_iload1 d_T_find_24 ?_
  refine hg_iadd d_T_find_25 ?_
  refine hg_eq1 (y := 2) (by decide) ?_
  refine hg_ialdT_n (j := 2) d_T_find_26 (fun s h => hx_bodiesT h) (by omega) (by decide) ?_
  refine hg_eq1 (y := 12) (by decide) ?_
  refine hg_istore7 d_T_find_27 rfl ?_
  refine hg_iload7 d_T_find_29 ?_
  refine hg_if_eq (tgt := 46) d_T_find_31 (by decide) (fun h_9 => absurd h_9 (by decide)) (fun h_9 => ?_)
  refine hg_aload0 d_T_find_34 ?_
  refine hg_iload7 d_T_find_35 ?_
  refine hg_iload5 d_T_find_37 ?_
  refine hg_iload3 d_T_find_39 ?_
  refine hg_iload4 d_T_find_40 ?_
  refine hg_cVi d_T_find_42 l_T_46 rfl rfl (hX.lt (n := 1) ⟨by decide, by decide⟩ rfl (by omega)) rfl (Nat.le_of_ble_eq_true rfl) (m_run12 (x := x) (st := st) (dl := dl) hX hR hC hK hKk (by omega) (by omega)) rfl ?_
  rintro _ _ ⟨I1, rfl, rfl, hC1, hf1⟩
  refine hg_ireturn d_T_find_45 rfl rfl ?_
  exact ⟨I1, rfl, rfl, hC1, hf1⟩

theorem m_run40 {p K dl : Nat} {v x : Int32} {st : tk_S} (hX : hg_XS T X) (hR : hg_SR T Rf) (hC : tk_C st I) (hK : tk_K p v K I) (hKk : K ≤ 6) (hd : dl ≤ 26) (hr : st.1 ≤ 870) : hg_MC l E (d + 13) Y_T_run 0 0 [.ref (hg_ad E 13 0), .int 40, .int 3, .int x, .int (nI dl)] (I, Lg, Rf, X) (hg_i (fun r M' => ∃ I' : Nat → Nat → Nat → Int32, r = (tk_L3 p v K x st).1 ∧ M' = (I', Lg, Rf, X) ∧ tk_C (tk_L3 p v K x st).2 I' ∧ hg_ft I' I)) := by
  refine hg_mc k_T_run (Nat.le_of_ble_eq_true rfl) ?_
  show hg_WP l E _ Y_T_run 0 0 0 [some (.ref (hg_ad E 13 0)), some (.int 40), some (.int 3), some (.int x), some (.int (nI dl)), none, none] [] (I, Lg, Rf, X) _
  refine hg_iload4 d_T_run_0 ?_
  refine hg_bipush (v := 40) d_T_run_2 (by decide) ?_
  refine hg_icmp_ne (tgt := 9) d_T_run_4 (by decide) (fun h_1 => ?_) (fun h_1 => absurd (fun (e : nI dl = nI 40) => by have := (nI_eq (by omega) (by decide)).mp e; omega) h_1)
  refine hg_aload0 d_T_run_9 ?_
  refine hg_getI d_T_run_10 f_T_16 rfl rfl (hX.lt (n := 1) ⟨by decide, by decide⟩ rfl (by omega)) ?_
  refine hg_eq1 (y := nI st.1) (hC.1) ?_
  refine hg_bipush (v := 20) d_T_run_13 (by decide) ?_
  have K1 : ∀ I1 : Nat → Nat → Nat → Int32, tk_C (tk_r 40 st) I1 → hg_ft I1 I → hg_WP l E (d + 12) Y_T_run 0 0 38 [some (.ref (hg_ad E 13 0)), some (.int 40), some (.int 3), some (.int x), some (.int (nI dl)), none, none] [] (I1, Lg, Rf, X) (hg_i (fun r M' => ∃ I' : Nat → Nat → Nat → Int32, r = (tk_L3 p v K x st).1 ∧ M' = (I', Lg, Rf, X) ∧ tk_C (tk_L3 p v K x st).2 I' ∧ hg_ft I' I)) := by
    intro I1 hC1 hf1
    have hK1 := hK.ft hf1
    refine hg_gets d_T_run_38 s_T_13 (fun s h => hx_aboveZ h) ?_
    refine hg_iload2 d_T_run_41 ?_
    refine hg_ialdT_n (j := 3) d_T_run_42 (fun s h => hx_aboveT h) (by omega) (by decide) ?_
    refine hg_eq1 (y := 0) (by decide) ?_
    refine hg_istore5 d_T_run_43 rfl ?_
    refine hg_iload4 d_T_run_45 ?_
    refine hg_iconst (v := 1) d_T_run_47 (by decide) ?_
    refine hg_iadd d_T_run_48 ?_
    refine hg_eq1 (y := nI (dl + 1)) (nI_add _ _) ?_
    refine hg_istore6 d_T_run_49 rfl ?_
    refine hg_iload1 d_T_run_51 ?_
    refine hg_look (off := 167) (tgt := 219) d_T_run_52 (by decide) (by decide) (by decide) ?_
    refine hg_aload0 d_T_run_219 ?_
    refine hg_iconst (v := 2) d_T_run_220 (by decide) ?_
    refine hg_iload5 d_T_run_221 ?_
    refine hg_iload3 d_T_run_223 ?_
    refine hg_iload6 d_T_run_224 ?_
    have hr0 : (tk_r 40 st).1 ≤ 880 := by have e : (tk_r 40 st).1 = st.1 + 1 := rfl; omega
    refine hg_cVi d_T_run_226 l_T_39 rfl rfl (hX.lt (n := 1) ⟨by decide, by decide⟩ rfl (by omega)) rfl (Nat.le_of_ble_eq_true rfl) (m_find_L0 (x := x) (st := tk_r 40 st) (dl := (dl + 1)) hX hR hC1 hK1 hKk (by omega) hr0) rfl ?_
    rintro _ _ ⟨I2, rfl, rfl, hC2, hf2⟩
    have hK2 := hK1.ft hf2
    have hg2 := hf2.tr hf1
    refine hg_aload0 d_T_run_229 ?_
    refine hg_iconst (v := 1) d_T_run_230 (by decide) ?_
    refine hg_aload0 d_T_run_231 ?_
    refine hg_getI d_T_run_232 f_T_34 rfl rfl (hX.lt (n := 1) ⟨by decide, by decide⟩ rfl (by omega)) ?_
    refine hg_eq1 (y := nI K) (hK2.2.1) ?_
    refine hg_iconst (v := 1) d_T_run_235 (by decide) ?_
    refine hg_iload6 d_T_run_236 ?_
    have hr0 : ((tk_L p v K 0 (x) (tk_r 40 st)).2).1 ≤ 900 := by have e0 : (tk_L p v K 0 (x) (tk_r 40 st)).2.1 = (tk_L0 p v K (x) (tk_r 40 st)).2.1 := rfl; have := tk_L0_le p v K (x) (tk_r 40 st); have e : (tk_r 40 st).1 = st.1 + 1 := rfl; omega
    refine hg_cVi d_T_run_238 l_T_39 rfl rfl (hX.lt (n := 1) ⟨by decide, by decide⟩ rfl (by omega)) rfl (Nat.le_of_ble_eq_true rfl) (m_find_T (x := 1) (st := (tk_L p v K 0 (x) (tk_r 40 st)).2) (dl := (dl + 1)) hX hR hC2 hK2 hKk hKk (by omega) hr0) rfl ?_
    rintro _ _ ⟨I3, rfl, rfl, hC3, hf3⟩
    have hK3 := hK2.ft hf3
    have hg3 := hf3.tr hg2
    refine hg_iadd d_T_run_241 ?_
    refine hg_ireturn d_T_run_242 rfl rfl ?_
    exact ⟨I3, rfl, rfl, hC3, hg3⟩
  refine hg_icmp_ge (tgt := 28) d_T_run_15 (by decide) (fun h20 => ?_) (fun h20 => ?_)
  · have h20 : ¬ st.1 < 20 := by have z := h20; rw [show (20 : Int32) = nI 20 from rfl, nI_leI (by decide) (by omega)] at z; omega
    refine hg_aload0 d_T_run_28 ?_
    refine hg_dup d_T_run_29 rfl ?_
    refine hg_getI d_T_run_30 f_T_16 rfl rfl (hX.lt (n := 1) ⟨by decide, by decide⟩ rfl (by omega)) ?_
    refine hg_eq1 (y := nI st.1) (hC.1) ?_
    refine hg_iconst (v := 1) d_T_run_33 (by decide) ?_
    refine hg_iadd d_T_run_34 ?_
    refine hg_eq1 (y := nI (st.1 + 1)) (nI_add _ _) ?_
    refine hg_putI d_T_run_35 f_T_16 rfl rfl (Or.inl rfl) rfl rfl (hX.lt (n := 1) ⟨by decide, by decide⟩ rfl (by omega)) ?_
    exact K1 _ (hC.r2 (b := 40) h20).1 (hC.r2 (b := 40) h20).2
  · have h20 : st.1 < 20 := by have z := h20; rw [show (20 : Int32) = nI 20 from rfl, nI_leI (by decide) (by omega)] at z; omega
    refine hg_aload0 d_T_run_18 ?_
    refine hg_getR d_T_run_19 f_T_9 rfl rfl (hX.lt (n := 1) ⟨by decide, by decide⟩ rfl (by omega)) hR.t0 ?_
    refine hg_aload0 d_T_run_22 ?_
    refine hg_getI d_T_run_23 f_T_16 rfl rfl (hX.lt (n := 1) ⟨by decide, by decide⟩ rfl (by omega)) ?_
    refine hg_eq1 (y := nI st.1) (hC.1) ?_
    refine hg_iload1 d_T_run_26 ?_
    refine hg_iast_n (j := st.1) d_T_run_27 rfl rfl (hX.lt (n := 1) ⟨by decide, by decide⟩ rfl (by omega)) (hX.jn (n := 20) (by decide) rfl (by omega)) ?_
    refine hg_aload0 d_T_run_28 ?_
    refine hg_dup d_T_run_29 rfl ?_
    refine hg_getI d_T_run_30 f_T_16 rfl rfl (hX.lt (n := 1) ⟨by decide, by decide⟩ rfl (by omega)) ?_
    refine hg_eq1 (y := I 13 0 1) (by simp [hg_u3]) ?_
    refine hg_eq1 (y := nI st.1) (hC.1) ?_
    refine hg_iconst (v := 1) d_T_run_33 (by decide) ?_
    refine hg_iadd d_T_run_34 ?_
    refine hg_eq1 (y := nI (st.1 + 1)) (nI_add _ _) ?_
    refine hg_putI d_T_run_35 f_T_16 rfl rfl (Or.inl rfl) rfl rfl (hX.lt (n := 1) ⟨by decide, by decide⟩ rfl (by omega)) ?_
    exact K1 _ (hC.r h20).1 (hC.r h20).2

theorem m_find_L3 {p K dl : Nat} {v x : Int32} {st : tk_S} (hX : hg_XS T X) (hR : hg_SR T Rf) (hC : tk_C st I) (hK : tk_K p v K I) (hKk : K ≤ 6) (hd : dl ≤ 25) (hr : st.1 ≤ 860) : hg_MC l E (d + 14) Y_T_find 0 0 [.ref (hg_ad E 13 0), .int 2, .int 3, .int x, .int (nI dl)] (I, Lg, Rf, X) (hg_i (fun r M' => ∃ I' : Nat → Nat → Nat → Int32, r = (tk_L p v K 3 (x) st).1 ∧ M' = (I', Lg, Rf, X) ∧ tk_C (tk_L p v K 3 (x) st).2 I' ∧ hg_ft I' I)) := by
  refine hg_mc k_T_find (Nat.le_of_ble_eq_true rfl) ?_
  show hg_WP l E _ Y_T_find 0 0 0 [some (.ref (hg_ad E 13 0)), some (.int 2), some (.int 3), some (.int x), some (.int (nI dl)), none, none, none] [] (I, Lg, Rf, X) _
  refine hg_iload2 d_T_find_0 ?_
  refine hg_istore5 d_T_find_1 rfl ?_
  refine hg_iconst (v := 0) d_T_find_3 (by decide) ?_
  refine hg_istore6 d_T_find_4 rfl ?_
  refine hg_iload6 d_T_find_6 ?_
  refine hg_iconst (v := 3) d_T_find_8 (by decide) ?_
  refine hg_icmp_ge (tgt := 60) d_T_find_9 (by decide) (fun h_1 => absurd h_1 (by decide)) (fun h_1 => ?_)
  refine hg_iload5 d_T_find_12 ?_
  refine hg_if_lt (tgt := 60) d_T_find_14 (by decide) (fun h_2 => absurd h_2 (by decide)) (fun h_2 => ?_)
  refine hg_gets d_T_find_17 s_T_43 (fun s h => hx_bodiesZ h) ?_
  refine hg_iconst (v := 3) d_T_find_20 (by decide) ?_
  refine hg_iload5 d_T_find_21 ?_
  refine hg_imul d_T_find_23 ?_
  refine hg_eq1 (y := 9) (by decide) ?_
  refine hg_iload1 d_T_find_24 ?_
  refine hg_iadd d_T_find_25 ?_
  refine hg_eq1 (y := 11) (by decide) ?_
  refine hg_ialdT_n (j := 11) d_T_find_26 (fun s h => hx_bodiesT h) (by omega) (by decide) ?_
  refine hg_eq1 (y := 40) (by decide) ?_
  refine hg_istore7 d_T_find_27 rfl ?_
  refine hg_iload7 d_T_find_29 ?_
  refine hg_if_eq (tgt := 46) d_T_find_31 (by decide) (fun h_3 => absurd h_3 (by decide)) (fun h_3 => ?_)
  refine hg_aload0 d_T_find_34 ?_
  refine hg_iload7 d_T_find_35 ?_
  refine hg_iload5 d_T_find_37 ?_
  refine hg_iload3 d_T_find_39 ?_
  refine hg_iload4 d_T_find_40 ?_
  refine hg_cVi d_T_find_42 l_T_46 rfl rfl (hX.lt (n := 1) ⟨by decide, by decide⟩ rfl (by omega)) rfl (Nat.le_of_ble_eq_true rfl) (m_run40 (x := x) (st := st) (dl := dl) hX hR hC hK hKk (by omega) (by omega)) rfl ?_
  rintro _ _ ⟨I1, rfl, rfl, hC1, hf1⟩
  refine hg_ireturn d_T_find_45 rfl rfl ?_
  exact ⟨I1, rfl, rfl, hC1, hf1⟩

theorem m_find_L6 {p K dl : Nat} {v x : Int32} {st : tk_S} (hX : hg_XS T X) (hR : hg_SR T Rf) (hC : tk_C st I) (hK : tk_K p v K I) (hKk : K ≤ 6) (hd : dl ≤ 25) (hr : st.1 ≤ 860) : hg_MC l E (d + 14) Y_T_find 0 0 [.ref (hg_ad E 13 0), .int 2, .int 6, .int x, .int (nI dl)] (I, Lg, Rf, X) (hg_i (fun r M' => ∃ I' : Nat → Nat → Nat → Int32, r = (tk_L p v K 6 (x) st).1 ∧ M' = (I', Lg, Rf, X) ∧ tk_C (tk_L p v K 6 (x) st).2 I' ∧ hg_ft I' I)) := by
  refine hg_mc k_T_find (Nat.le_of_ble_eq_true rfl) ?_
  show hg_WP l E _ Y_T_find 0 0 0 [some (.ref (hg_ad E 13 0)), some (.int 2), some (.int 6), some (.int x), some (.int (nI dl)), none, none, none] [] (I, Lg, Rf, X) _
  refine hg_iload2 d_T_find_0 ?_
  refine hg_istore5 d_T_find_1 rfl ?_
  refine hg_iconst (v := 0) d_T_find_3 (by decide) ?_
  refine hg_istore6 d_T_find_4 rfl ?_
  refine hg_iload6 d_T_find_6 ?_
  refine hg_iconst (v := 3) d_T_find_8 (by decide) ?_
  refine hg_icmp_ge (tgt := 60) d_T_find_9 (by decide) (fun h_1 => absurd h_1 (by decide)) (fun h_1 => ?_)
  refine hg_iload5 d_T_find_12 ?_
  refine hg_if_lt (tgt := 60) d_T_find_14 (by decide) (fun h_2 => absurd h_2 (by decide)) (fun h_2 => ?_)
  refine hg_gets d_T_find_17 s_T_43 (fun s h => hx_bodiesZ h) ?_
  refine hg_iconst (v := 3) d_T_find_20 (by decide) ?_
  refine hg_iload5 d_T_find_21 ?_
  refine hg_imul d_T_find_23 ?_
  refine hg_eq1 (y := 18) (by decide) ?_
  refine hg_iload1 d_T_find_24 ?_
  refine hg_iadd d_T_find_25 ?_
  refine hg_eq1 (y := 20) (by decide) ?_
  refine hg_ialdT_n (j := 20) d_T_find_26 (fun s h => hx_bodiesT h) (by omega) (by decide) ?_
  refine hg_eq1 (y := 0) (by decide) ?_
  refine hg_istore7 d_T_find_27 rfl ?_
  refine hg_iload7 d_T_find_29 ?_
  refine hg_if_eq (tgt := 46) d_T_find_31 (by decide) (fun h_3 => ?_) (fun h_3 => absurd (by decide) h_3)
  refine hg_gets d_T_find_46 s_T_13 (fun s h => hx_aboveZ h) ?_
  refine hg_iload5 d_T_find_49 ?_
  refine hg_ialdT_n (j := 6) d_T_find_51 (fun s h => hx_aboveT h) (by omega) (by decide) ?_
  refine hg_eq1 (y := 3) (by decide) ?_
  refine hg_istore5 d_T_find_52 rfl ?_
  refine hg_iinc6 (v := 1) d_T_find_54 rfl (by decide) ?_
  refine hg_goto (tgt := 6) d_T_find_57 (by decide) ?_
  refine hg_iload6 d_T_find_6 ?_
  refine hg_iconst (v := 3) d_T_find_8 (by decide) ?_
  refine hg_icmp_ge (tgt := 60) d_T_find_9 (by decide) (fun h_4 => absurd h_4 (by decide)) (fun h_4 => ?_)
  refine hg_iload5 d_T_find_12 ?_
  refine hg_if_lt (tgt := 60) d_T_find_14 (by decide) (fun h_5 => absurd h_5 (by decide)) (fun h_5 => ?_)
  refine hg_gets d_T_find_17 s_T_43 (fun s h => hx_bodiesZ h) ?_
  refine hg_iconst (v := 3) d_T_find_20 (by decide) ?_
  refine hg_iload5 d_T_find_21 ?_
  refine hg_imul d_T_find_23 ?_
  refine hg_eq1 (y := 9) (by decide) ?_
  refine hg_iload1 d_T_find_24 ?_
  refine hg_iadd d_T_find_25 ?_
  refine hg_eq1 (y := 11) (by decide) ?_
  refine hg_ialdT_n (j := 11) d_T_find_26 (fun s h => hx_bodiesT h) (by omega) (by decide) ?_
  refine hg_eq1 (y := 40) (by decide) ?_
  refine hg_istore7 d_T_find_27 rfl ?_
  refine hg_iload7 d_T_find_29 ?_
  refine hg_if_eq (tgt := 46) d_T_find_31 (by decide) (fun h_6 => absurd h_6 (by decide)) (fun h_6 => ?_)
  refine hg_aload0 d_T_find_34 ?_
  refine hg_iload7 d_T_find_35 ?_
  refine hg_iload5 d_T_find_37 ?_
  refine hg_iload3 d_T_find_39 ?_
  refine hg_iload4 d_T_find_40 ?_
  refine hg_cVi d_T_find_42 l_T_46 rfl rfl (hX.lt (n := 1) ⟨by decide, by decide⟩ rfl (by omega)) rfl (Nat.le_of_ble_eq_true rfl) (m_run40 (x := x) (st := st) (dl := dl) hX hR hC hK hKk (by omega) (by omega)) rfl ?_
  rintro _ _ ⟨I1, rfl, rfl, hC1, hf1⟩
  refine hg_ireturn d_T_find_45 rfl rfl ?_
  exact ⟨I1, rfl, rfl, hC1, hf1⟩

theorem m_run60 {p K dl : Nat} {v x : Int32} {st : tk_S} (hX : hg_XS T X) (hR : hg_SR T Rf) (hC : tk_C st I) (hK : tk_K p v K I) (hKk : K ≤ 6) (hd : dl ≤ 26) (hr : st.1 ≤ 870) : hg_MC l E (d + 13) Y_T_run 0 0 [.ref (hg_ad E 13 0), .int 60, .int 5, .int x, .int (nI dl)] (I, Lg, Rf, X) (hg_i (fun r M' => ∃ I' : Nat → Nat → Nat → Int32, r = (tk_L p v K 5 x st).1 ∧ M' = (I', Lg, Rf, X) ∧ tk_C (tk_L p v K 5 x st).2 I' ∧ hg_ft I' I)) := by
  refine hg_mc k_T_run (Nat.le_of_ble_eq_true rfl) ?_
  show hg_WP l E _ Y_T_run 0 0 0 [some (.ref (hg_ad E 13 0)), some (.int 60), some (.int 5), some (.int x), some (.int (nI dl)), none, none] [] (I, Lg, Rf, X) _
  refine hg_iload4 d_T_run_0 ?_
  refine hg_bipush (v := 40) d_T_run_2 (by decide) ?_
  refine hg_icmp_ne (tgt := 9) d_T_run_4 (by decide) (fun h_1 => ?_) (fun h_1 => absurd (fun (e : nI dl = nI 40) => by have := (nI_eq (by omega) (by decide)).mp e; omega) h_1)
  refine hg_aload0 d_T_run_9 ?_
  refine hg_getI d_T_run_10 f_T_16 rfl rfl (hX.lt (n := 1) ⟨by decide, by decide⟩ rfl (by omega)) ?_
  refine hg_eq1 (y := nI st.1) (hC.1) ?_
  refine hg_bipush (v := 20) d_T_run_13 (by decide) ?_
  have K1 : ∀ I1 : Nat → Nat → Nat → Int32, tk_C (tk_r 60 st) I1 → hg_ft I1 I → hg_WP l E (d + 12) Y_T_run 0 0 38 [some (.ref (hg_ad E 13 0)), some (.int 60), some (.int 5), some (.int x), some (.int (nI dl)), none, none] [] (I1, Lg, Rf, X) (hg_i (fun r M' => ∃ I' : Nat → Nat → Nat → Int32, r = (tk_L p v K 5 x st).1 ∧ M' = (I', Lg, Rf, X) ∧ tk_C (tk_L p v K 5 x st).2 I' ∧ hg_ft I' I)) := by
    intro I1 hC1 hf1
    have hK1 := hK.ft hf1
    refine hg_gets d_T_run_38 s_T_13 (fun s h => hx_aboveZ h) ?_
    refine hg_iload2 d_T_run_41 ?_
    refine hg_ialdT_n (j := 5) d_T_run_42 (fun s h => hx_aboveT h) (by omega) (by decide) ?_
    refine hg_eq1 (y := 2) (by decide) ?_
    refine hg_istore5 d_T_run_43 rfl ?_
    refine hg_iload4 d_T_run_45 ?_
    refine hg_iconst (v := 1) d_T_run_47 (by decide) ?_
    refine hg_iadd d_T_run_48 ?_
    refine hg_eq1 (y := nI (dl + 1)) (nI_add _ _) ?_
    refine hg_istore6 d_T_run_49 rfl ?_
    refine hg_iload1 d_T_run_51 ?_
    refine hg_look (off := 216) (tgt := 268) d_T_run_52 (by decide) (by decide) (by decide) ?_
    refine hg_aload0 d_T_run_268 ?_
    refine hg_iconst (v := 2) d_T_run_269 (by decide) ?_
    refine hg_iload5 d_T_run_270 ?_
    refine hg_iload3 d_T_run_272 ?_
    refine hg_aload0 d_T_run_273 ?_
    refine hg_getI d_T_run_274 f_T_26 rfl rfl (hX.lt (n := 1) ⟨by decide, by decide⟩ rfl (by omega)) ?_
    refine hg_eq1 (y := nI p) (hK1.1) ?_
    refine hg_isub d_T_run_277 ?_
    refine hg_iload6 d_T_run_278 ?_
    have hr0 : (tk_r 60 st).1 ≤ 880 := by have e : (tk_r 60 st).1 = st.1 + 1 := rfl; omega
    refine hg_cVi d_T_run_280 l_T_39 rfl rfl (hX.lt (n := 1) ⟨by decide, by decide⟩ rfl (by omega)) rfl (Nat.le_of_ble_eq_true rfl) (m_find_L2 (x := x - (nI p)) (st := tk_r 60 st) (dl := (dl + 1)) hX hR hC1 hK1 hKk (by omega) hr0) rfl ?_
    rintro _ _ ⟨I2, rfl, rfl, hC2, hf2⟩
    have hK2 := hK1.ft hf2
    have hg2 := hf2.tr hf1
    refine hg_ireturn d_T_run_283 rfl rfl ?_
    exact ⟨I2, rfl, rfl, hC2, hg2⟩
  refine hg_icmp_ge (tgt := 28) d_T_run_15 (by decide) (fun h20 => ?_) (fun h20 => ?_)
  · have h20 : ¬ st.1 < 20 := by have z := h20; rw [show (20 : Int32) = nI 20 from rfl, nI_leI (by decide) (by omega)] at z; omega
    refine hg_aload0 d_T_run_28 ?_
    refine hg_dup d_T_run_29 rfl ?_
    refine hg_getI d_T_run_30 f_T_16 rfl rfl (hX.lt (n := 1) ⟨by decide, by decide⟩ rfl (by omega)) ?_
    refine hg_eq1 (y := nI st.1) (hC.1) ?_
    refine hg_iconst (v := 1) d_T_run_33 (by decide) ?_
    refine hg_iadd d_T_run_34 ?_
    refine hg_eq1 (y := nI (st.1 + 1)) (nI_add _ _) ?_
    refine hg_putI d_T_run_35 f_T_16 rfl rfl (Or.inl rfl) rfl rfl (hX.lt (n := 1) ⟨by decide, by decide⟩ rfl (by omega)) ?_
    exact K1 _ (hC.r2 (b := 60) h20).1 (hC.r2 (b := 60) h20).2
  · have h20 : st.1 < 20 := by have z := h20; rw [show (20 : Int32) = nI 20 from rfl, nI_leI (by decide) (by omega)] at z; omega
    refine hg_aload0 d_T_run_18 ?_
    refine hg_getR d_T_run_19 f_T_9 rfl rfl (hX.lt (n := 1) ⟨by decide, by decide⟩ rfl (by omega)) hR.t0 ?_
    refine hg_aload0 d_T_run_22 ?_
    refine hg_getI d_T_run_23 f_T_16 rfl rfl (hX.lt (n := 1) ⟨by decide, by decide⟩ rfl (by omega)) ?_
    refine hg_eq1 (y := nI st.1) (hC.1) ?_
    refine hg_iload1 d_T_run_26 ?_
    refine hg_iast_n (j := st.1) d_T_run_27 rfl rfl (hX.lt (n := 1) ⟨by decide, by decide⟩ rfl (by omega)) (hX.jn (n := 20) (by decide) rfl (by omega)) ?_
    refine hg_aload0 d_T_run_28 ?_
    refine hg_dup d_T_run_29 rfl ?_
    refine hg_getI d_T_run_30 f_T_16 rfl rfl (hX.lt (n := 1) ⟨by decide, by decide⟩ rfl (by omega)) ?_
    refine hg_eq1 (y := I 13 0 1) (by simp [hg_u3]) ?_
    refine hg_eq1 (y := nI st.1) (hC.1) ?_
    refine hg_iconst (v := 1) d_T_run_33 (by decide) ?_
    refine hg_iadd d_T_run_34 ?_
    refine hg_eq1 (y := nI (st.1 + 1)) (nI_add _ _) ?_
    refine hg_putI d_T_run_35 f_T_16 rfl rfl (Or.inl rfl) rfl rfl (hX.lt (n := 1) ⟨by decide, by decide⟩ rfl (by omega)) ?_
    exact K1 _ (hC.r h20).1 (hC.r h20).2

theorem m_find_L5 {p K dl : Nat} {v x : Int32} {st : tk_S} (hX : hg_XS T X) (hR : hg_SR T Rf) (hC : tk_C st I) (hK : tk_K p v K I) (hKk : K ≤ 6) (hd : dl ≤ 25) (hr : st.1 ≤ 860) : hg_MC l E (d + 14) Y_T_find 0 0 [.ref (hg_ad E 13 0), .int 2, .int 5, .int x, .int (nI dl)] (I, Lg, Rf, X) (hg_i (fun r M' => ∃ I' : Nat → Nat → Nat → Int32, r = (tk_L p v K 5 (x) st).1 ∧ M' = (I', Lg, Rf, X) ∧ tk_C (tk_L p v K 5 (x) st).2 I' ∧ hg_ft I' I)) := by
  refine hg_mc k_T_find (Nat.le_of_ble_eq_true rfl) ?_
  show hg_WP l E _ Y_T_find 0 0 0 [some (.ref (hg_ad E 13 0)), some (.int 2), some (.int 5), some (.int x), some (.int (nI dl)), none, none, none] [] (I, Lg, Rf, X) _
  refine hg_iload2 d_T_find_0 ?_
  refine hg_istore5 d_T_find_1 rfl ?_
  refine hg_iconst (v := 0) d_T_find_3 (by decide) ?_
  refine hg_istore6 d_T_find_4 rfl ?_
  refine hg_iload6 d_T_find_6 ?_
  refine hg_iconst (v := 3) d_T_find_8 (by decide) ?_
  refine hg_icmp_ge (tgt := 60) d_T_find_9 (by decide) (fun h_1 => absurd h_1 (by decide)) (fun h_1 => ?_)
  refine hg_iload5 d_T_find_12 ?_
  refine hg_if_lt (tgt := 60) d_T_find_14 (by decide) (fun h_2 => absurd h_2 (by decide)) (fun h_2 => ?_)
  refine hg_gets d_T_find_17 s_T_43 (fun s h => hx_bodiesZ h) ?_
  refine hg_iconst (v := 3) d_T_find_20 (by decide) ?_
  refine hg_iload5 d_T_find_21 ?_
  refine hg_imul d_T_find_23 ?_
  refine hg_eq1 (y := 15) (by decide) ?_
  refine hg_iload1 d_T_find_24 ?_
  refine hg_iadd d_T_find_25 ?_
  refine hg_eq1 (y := 17) (by decide) ?_
  refine hg_ialdT_n (j := 17) d_T_find_26 (fun s h => hx_bodiesT h) (by omega) (by decide) ?_
  refine hg_eq1 (y := 60) (by decide) ?_
  refine hg_istore7 d_T_find_27 rfl ?_
  refine hg_iload7 d_T_find_29 ?_
  refine hg_if_eq (tgt := 46) d_T_find_31 (by decide) (fun h_3 => absurd h_3 (by decide)) (fun h_3 => ?_)
  refine hg_aload0 d_T_find_34 ?_
  refine hg_iload7 d_T_find_35 ?_
  refine hg_iload5 d_T_find_37 ?_
  refine hg_iload3 d_T_find_39 ?_
  refine hg_iload4 d_T_find_40 ?_
  refine hg_cVi d_T_find_42 l_T_46 rfl rfl (hX.lt (n := 1) ⟨by decide, by decide⟩ rfl (by omega)) rfl (Nat.le_of_ble_eq_true rfl) (m_run60 (x := x) (st := st) (dl := dl) hX hR hC hK hKk (by omega) (by omega)) rfl ?_
  rintro _ _ ⟨I1, rfl, rfl, hC1, hf1⟩
  refine hg_ireturn d_T_find_45 rfl rfl ?_
  exact ⟨I1, rfl, rfl, hC1, hf1⟩

theorem m_find_L {k p K dl : Nat} {v x : Int32} {st : tk_S} (hX : hg_XS T X) (hR : hg_SR T Rf) (hC : tk_C st I) (hK : tk_K p v K I) (hk : k ≤ 6) (hKk : K ≤ 6) (hd : dl ≤ 25) (hr : st.1 ≤ 860) : hg_MC l E (d + 14) Y_T_find 0 0 [.ref (hg_ad E 13 0), .int 2, .int (nI k), .int x, .int (nI dl)] (I, Lg, Rf, X) (hg_i (fun r M' => ∃ I' : Nat → Nat → Nat → Int32, r = (tk_L p v K k (x) st).1 ∧ M' = (I', Lg, Rf, X) ∧ tk_C (tk_L p v K k (x) st).2 I' ∧ hg_ft I' I)) := by
  have h7 : k = 0 ∨ k = 1 ∨ k = 2 ∨ k = 3 ∨ k = 4 ∨ k = 5 ∨ k = 6 := by omega
  rcases h7 with rfl | rfl | rfl | rfl | rfl | rfl | rfl
  · exact m_find_L0 (d := d + 2) hX hR hC hK hKk (by omega) (by omega)
  · exact m_find_L1 (d := d + 2) hX hR hC hK hKk (by omega) (by omega)
  · exact m_find_L2 (d := d + 2) hX hR hC hK hKk (by omega) (by omega)
  · exact m_find_L3 (d := d + 0) hX hR hC hK hKk (by omega) (by omega)
  · exact m_find_L4 (d := d + 2) hX hR hC hK hKk (by omega) (by omega)
  · exact m_find_L5 (d := d + 0) hX hR hC hK hKk (by omega) (by omega)
  · exact m_find_L6 (d := d + 0) hX hR hC hK hKk (by omega) (by omega)
end M7
