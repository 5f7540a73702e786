/-! the model: act -/
section M44
variable {l : Launch} {E : hg_E} {d T : Nat}
variable {I : Nat → Nat → Nat → Int32} {Lg : Nat → Nat → Nat → Int64} {Rf : Nat → Nat → Nat → Option (Nat × Nat)} {X : Nat × (Nat → Nat) × (Nat → Nat → Nat)}
variable {I' I1 : Nat → Nat → Nat → Int32} {st : tk_S}
def tk_M (st : tk_S) (I : Nat → Nat → Nat → Int32) : Prop := I 21 0 39 = nI st.1 ∧ ∀ j, j < 20 → I 22 22 j = st.2 j
def hm_r (I' I : Nat → Nat → Nat → Int32) : Prop := (∀ q, q ≠ 21 → q ≠ 22 → I' q = I q) ∧ (∀ j, j ≠ 39 → I' 21 0 j = I 21 0 j) ∧ ∀ r, r ≠ 22 → I' 22 r = I 22 r
theorem hm_r.rf : hm_r I I := ⟨fun _ _ _ => rfl, fun _ _ => rfl, fun _ _ => rfl⟩
theorem hm_r.tr (h : hm_r I' I1) (h2 : hm_r I1 I) : hm_r I' I := ⟨fun q a b => (h.1 q a b).trans (h2.1 q a b), fun j a => (h.2.1 j a).trans (h2.2.1 j a), fun j a => (h.2.2 j a).trans (h2.2.2 j a)⟩
theorem hm_r.u21 {x : Int32} (h : hm_r I' I) : hm_r (hg_u3 I' 21 0 39 x) I := ⟨fun q a b => by rw [← h.1 q a b]; funext y z; exact hg_u3k (fun v => a v.1), fun j hj => by rw [← h.2.1 j hj, hg_u3r, if_neg hj], fun r hr => by rw [← h.2.2 r hr]; funext z; exact hg_u3k (by omega)⟩
theorem hm_r.u22 {j : Nat} {x : Int32} (h : hm_r I' I) : hm_r (hg_u3 I' 22 22 j x) I := ⟨fun q a b => by rw [← h.1 q a b]; funext y z; exact hg_u3k (fun v => b v.1), fun k hk => by rw [← h.2.1 k hk]; exact hg_u3k (by omega), fun r hr => by rw [← h.2.2 r hr]; funext z; exact hg_u3k (fun v => hr v.2)⟩
theorem m_M_ran {b : Int32} (hX : hg_XS T X) (hR : hg_SR T Rf) (hK : tk_M st I) (hs : st.1 ≤ 1000) : hg_MC l E (d + 1) Y_M_ran 0 0 [.ref (hg_ad E 21 0), .int b] (I, Lg, Rf, X) (hg_v (fun M' => ∃ I' : Nat → Nat → Nat → Int32, M' = (I', Lg, Rf, X) ∧ tk_M (tk_r b st) I' ∧ hm_r I' I)) := by
  refine hg_mc k_M_ran (Nat.le_of_ble_eq_true rfl) ?_
  show hg_WP l E _ Y_M_ran 0 0 0 [some (.ref (hg_ad E 21 0)), some (.int b)] [] (I, Lg, Rf, X) _
  refine hg_aload0 d_M_ran_0 ?_
  refine hg_getI d_M_ran_1 f_M_304 rfl rfl (hX.lt (n := 1) ⟨by decide, by decide⟩ rfl (by omega)) ?_
  refine hg_eq1 (y := nI st.1) (hK.1) ?_
  refine hg_bipush (v := 20) d_M_ran_4 (by decide) ?_
  refine hg_icmp_ge (tgt := 19) d_M_ran_6 (by decide) (fun h20 => ?_) (fun h20 => ?_)
  · have hge : ¬ st.1 < 20 := fun z => nI_ge (a := st.1) (b := 20) z (by decide) h20
    refine hg_aload0 d_M_ran_19 ?_
    refine hg_dup d_M_ran_20 rfl ?_
    refine hg_getI d_M_ran_21 f_M_304 rfl rfl (hX.lt (n := 1) ⟨by decide, by decide⟩ rfl (by omega)) ?_
    refine hg_eq1 (y := nI st.1) (hK.1) ?_
    refine hg_iconst (v := 1) d_M_ran_24 (by decide) ?_
    refine hg_iadd d_M_ran_25 ?_
    refine hg_eq1 (y := nI (st.1 + 1)) (nI_add _ _) ?_
    refine hg_putI d_M_ran_26 f_M_304 rfl rfl (Or.inl rfl) rfl rfl (hX.lt (n := 1) ⟨by decide, by decide⟩ rfl (by omega)) ?_
    refine hg_return d_M_ran_29 rfl ?_
    refine ⟨_, rfl, ⟨by rw [hg_u3s]; rfl, fun j hj => ?_⟩, hm_r.rf.u21⟩
    rw [hg_u3k (by omega)]
    show _ = (if st.1 < 20 then (fun j => if j = st.1 then b else st.2 j) else st.2) j
    rw [if_neg hge]; exact hK.2 j hj
  · have hlt : st.1 < 20 := Nat.lt_of_not_le (fun z => h20 (nI_le (a := 20) (b := st.1) z (by omega)))
    refine hg_aload0 d_M_ran_9 ?_
    refine hg_getR d_M_ran_10 f_M_82 rfl rfl (hX.lt (n := 1) ⟨by decide, by decide⟩ rfl (by omega)) (hR.m (j := 40) (q := (22, 22)) rfl) ?_
    refine hg_aload0 d_M_ran_13 ?_
    refine hg_getI d_M_ran_14 f_M_304 rfl rfl (hX.lt (n := 1) ⟨by decide, by decide⟩ rfl (by omega)) ?_
    refine hg_eq1 (y := nI st.1) (hK.1) ?_
    refine hg_iload1 d_M_ran_17 ?_
    refine hg_iast_n (j := st.1) d_M_ran_18 rfl rfl (hX.lt (n := 28) ⟨by decide, by decide⟩ rfl (by omega)) (hX.jn (n := 20) (by decide) rfl (by omega)) ?_
    refine hg_aload0 d_M_ran_19 ?_
    refine hg_dup d_M_ran_20 rfl ?_
    refine hg_getI d_M_ran_21 f_M_304 rfl rfl (hX.lt (n := 1) ⟨by decide, by decide⟩ rfl (by omega)) ?_
    refine hg_eq1 (y := I 21 0 39) (by simp [hg_u3]) ?_
    refine hg_eq1 (y := nI st.1) (hK.1) ?_
    refine hg_iconst (v := 1) d_M_ran_24 (by decide) ?_
    refine hg_iadd d_M_ran_25 ?_
    refine hg_eq1 (y := nI (st.1 + 1)) (nI_add _ _) ?_
    refine hg_putI d_M_ran_26 f_M_304 rfl rfl (Or.inl rfl) rfl rfl (hX.lt (n := 1) ⟨by decide, by decide⟩ rfl (by omega)) ?_
    refine hg_return d_M_ran_29 rfl ?_
    refine ⟨_, rfl, ⟨by rw [hg_u3s]; rfl, fun j hj => ?_⟩, hm_r.rf.u22.u21⟩
    rw [hg_u3k (by omega), hg_u3r]
    show _ = (if st.1 < 20 then (fun j => if j = st.1 then b else st.2 j) else st.2) j
    rw [if_pos hlt]
    show (if j = st.1 then b else I 22 22 j) = (if j = st.1 then b else st.2 j)
    rw [hK.2 j hj]

theorem m_M_asks0 {p K : Nat} {v x : Int32} (hX : hg_XS T X) (hR : hg_SR T Rf) (hv : I 22 1 p = v) (hk : I 22 0 p = nI K) (hp : p < 6) (hKk : K ≤ 6) (hK : tk_M st I) (hs : st.1 ≤ 990) : hg_MC l E (d + 2) Y_M_asks 0 0 [.ref (hg_ad E 21 0), .int (nI p), .int 0, .int x] (I, Lg, Rf, X) (hg_i (fun r M' => ∃ I' : Nat → Nat → Nat → Int32, r = (tk_A p v 0 (x) (st)).1 ∧ M' = (I', Lg, Rf, X) ∧ tk_M (tk_A p v 0 (x) (st)).2 I' ∧ hm_r I' I)) := by
  refine hg_mc k_M_asks (Nat.le_of_ble_eq_true rfl) ?_
  show hg_WP l E _ Y_M_asks 0 0 0 [some (.ref (hg_ad E 21 0)), some (.int (nI p)), some (.int 0), some (.int x)] [] (I, Lg, Rf, X) _
  refine hg_iload2 d_M_asks_0 ?_
  refine hg_tabI (off := 95) (tgt := 96) d_M_asks_1 (by decide) (by decide) rfl (by decide) ?_
  refine hg_aload0 d_M_asks_96 ?_
  refine hg_bipush (v := 10) d_M_asks_97 (by decide) ?_
  refine hg_cVv d_M_asks_99 l_M_307 rfl rfl (hX.lt (n := 1) ⟨by decide, by decide⟩ rfl (by omega)) rfl (Nat.le_of_ble_eq_true rfl) (m_M_ran (b := 10) hX hR hK (by omega)) rfl ?_
  rintro _ ⟨I2, rfl, hK2, hf2⟩
  refine hg_iload3 d_M_asks_102 ?_
  refine hg_iload1 d_M_asks_103 ?_
  refine hg_iadd d_M_asks_104 ?_
  refine hg_ireturn d_M_asks_105 rfl rfl ?_
  exact ⟨_, rfl, rfl, hK2, hf2⟩

theorem m_M_asks1 {p K : Nat} {v x : Int32} (hX : hg_XS T X) (hR : hg_SR T Rf) (hv : I 22 1 p = v) (hk : I 22 0 p = nI K) (hp : p < 6) (hKk : K ≤ 6) (hK : tk_M st I) (hs : st.1 ≤ 985) : hg_MC l E (d + 3) Y_M_asks 0 0 [.ref (hg_ad E 21 0), .int (nI p), .int 1, .int x] (I, Lg, Rf, X) (hg_i (fun r M' => ∃ I' : Nat → Nat → Nat → Int32, r = (tk_A p v 1 (x) (st)).1 ∧ M' = (I', Lg, Rf, X) ∧ tk_M (tk_A p v 1 (x) (st)).2 I' ∧ hm_r I' I)) := by
  refine hg_mc k_M_asks (Nat.le_of_ble_eq_true rfl) ?_
  show hg_WP l E _ Y_M_asks 0 0 0 [some (.ref (hg_ad E 21 0)), some (.int (nI p)), some (.int 1), some (.int x)] [] (I, Lg, Rf, X) _
  refine hg_iload2 d_M_asks_0 ?_
  refine hg_tabI (off := 105) (tgt := 106) d_M_asks_1 (by decide) (by decide) rfl (by decide) ?_
  refine hg_aload0 d_M_asks_106 ?_
  refine hg_iload1 d_M_asks_107 ?_
  refine hg_iload2 d_M_asks_108 ?_
  refine hg_cSi d_M_asks_109 l_M_315 rfl (Nat.le_of_ble_eq_true rfl) (m_M_above) rfl ?_
  rintro _ _ ⟨rfl, rfl⟩
  refine hg_eq1 (y := 0) (by decide) ?_
  refine hg_iload3 d_M_asks_112 ?_
  have hb2 : (st).1 ≤ 990 := by omega
  refine hg_cVi d_M_asks_113 l_M_311 rfl rfl (hX.lt (n := 1) ⟨by decide, by decide⟩ rfl (by omega)) rfl (Nat.le_of_ble_eq_true rfl) (m_M_asks0 (p := p) (v := v) (K := K) (x := x) (st := st) hX hR hv hk hp hKk hK hb2) rfl ?_
  rintro _ _ ⟨I2, rfl, rfl, hK2, hf2⟩
  refine hg_ireturn d_M_asks_116 rfl rfl ?_
  exact ⟨_, rfl, rfl, hK2, hf2⟩

theorem m_M_asks3 {p K : Nat} {v x : Int32} (hX : hg_XS T X) (hR : hg_SR T Rf) (hv : I 22 1 p = v) (hk : I 22 0 p = nI K) (hp : p < 6) (hKk : K ≤ 6) (hK : tk_M st I) (hs : st.1 ≤ 985) : hg_MC l E (d + 3) Y_M_asks 0 0 [.ref (hg_ad E 21 0), .int (nI p), .int 3, .int x] (I, Lg, Rf, X) (hg_i (fun r M' => ∃ I' : Nat → Nat → Nat → Int32, r = (tk_A p v 3 (x) (st)).1 ∧ M' = (I', Lg, Rf, X) ∧ tk_M (tk_A p v 3 (x) (st)).2 I' ∧ hm_r I' I)) := by
  refine hg_mc k_M_asks (Nat.le_of_ble_eq_true rfl) ?_
  show hg_WP l E _ Y_M_asks 0 0 0 [some (.ref (hg_ad E 21 0)), some (.int (nI p)), some (.int 3), some (.int x)] [] (I, Lg, Rf, X) _
  refine hg_iload2 d_M_asks_0 ?_
  refine hg_tabI (off := 105) (tgt := 106) d_M_asks_1 (by decide) (by decide) rfl (by decide) ?_
  refine hg_aload0 d_M_asks_106 ?_
  refine hg_iload1 d_M_asks_107 ?_
  refine hg_iload2 d_M_asks_108 ?_
  refine hg_cSi d_M_asks_109 l_M_315 rfl (Nat.le_of_ble_eq_true rfl) (m_M_above) rfl ?_
  rintro _ _ ⟨rfl, rfl⟩
  refine hg_eq1 (y := 0) (by decide) ?_
  refine hg_iload3 d_M_asks_112 ?_
  have hb2 : (st).1 ≤ 990 := by omega
  refine hg_cVi d_M_asks_113 l_M_311 rfl rfl (hX.lt (n := 1) ⟨by decide, by decide⟩ rfl (by omega)) rfl (Nat.le_of_ble_eq_true rfl) (m_M_asks0 (p := p) (v := v) (K := K) (x := x) (st := st) hX hR hv hk hp hKk hK hb2) rfl ?_
  rintro _ _ ⟨I2, rfl, rfl, hK2, hf2⟩
  refine hg_ireturn d_M_asks_116 rfl rfl ?_
  exact ⟨_, rfl, rfl, hK2, hf2⟩

theorem m_M_asks2 {p K : Nat} {v x : Int32} (hX : hg_XS T X) (hR : hg_SR T Rf) (hv : I 22 1 p = v) (hk : I 22 0 p = nI K) (hp : p < 6) (hKk : K ≤ 6) (hK : tk_M st I) (hs : st.1 ≤ 980) : hg_MC l E (d + 3) Y_M_asks 0 0 [.ref (hg_ad E 21 0), .int (nI p), .int 2, .int x] (I, Lg, Rf, X) (hg_i (fun r M' => ∃ I' : Nat → Nat → Nat → Int32, r = (tk_A p v 2 (x) (st)).1 ∧ M' = (I', Lg, Rf, X) ∧ tk_M (tk_A p v 2 (x) (st)).2 I' ∧ hm_r I' I)) := by
  refine hg_mc k_M_asks (Nat.le_of_ble_eq_true rfl) ?_
  show hg_WP l E _ Y_M_asks 0 0 0 [some (.ref (hg_ad E 21 0)), some (.int (nI p)), some (.int 2), some (.int x)] [] (I, Lg, Rf, X) _
  refine hg_iload2 d_M_asks_0 ?_
  refine hg_tabI (off := 43) (tgt := 44) d_M_asks_1 (by decide) (by decide) rfl (by decide) ?_
  refine hg_aload0 d_M_asks_44 ?_
  refine hg_bipush (v := 30) d_M_asks_45 (by decide) ?_
  refine hg_cVv d_M_asks_47 l_M_307 rfl rfl (hX.lt (n := 1) ⟨by decide, by decide⟩ rfl (by omega)) rfl (Nat.le_of_ble_eq_true rfl) (m_M_ran (b := 30) hX hR hK (by omega)) rfl ?_
  rintro _ ⟨I2, rfl, hK2, hf2⟩
  refine hg_aload0 d_M_asks_50 ?_
  refine hg_iload1 d_M_asks_51 ?_
  refine hg_iconst (v := 0) d_M_asks_52 (by decide) ?_
  refine hg_iload3 d_M_asks_53 ?_
  refine hg_iconst (v := 3) d_M_asks_54 (by decide) ?_
  refine hg_imul d_M_asks_55 ?_
  have hb3 : (tk_r 30 (st)).1 ≤ 990 := by first | (show st.1 + 1 ≤ _; omega) | (omega)
  refine hg_cVi d_M_asks_56 l_M_311 rfl rfl (hX.lt (n := 1) ⟨by decide, by decide⟩ rfl (by omega)) rfl (Nat.le_of_ble_eq_true rfl) (m_M_asks0 (p := p) (v := v) (K := K) (x := (x * 3)) (st := tk_r 30 (st)) hX hR (by rw [hf2.2.2 1 (by decide)]; exact hv) (by rw [hf2.2.2 0 (by decide)]; exact hk) hp hKk hK2 hb3) rfl ?_
  rintro _ _ ⟨I3, rfl, rfl, hK3, hf3⟩
  have hg3 := hm_r.tr hf3 hf2
  refine hg_ireturn d_M_asks_59 rfl rfl ?_
  exact ⟨_, rfl, rfl, hK3, hg3⟩

theorem m_M_asks4 {p K : Nat} {v x : Int32} (hX : hg_XS T X) (hR : hg_SR T Rf) (hv : I 22 1 p = v) (hk : I 22 0 p = nI K) (hp : p < 6) (hKk : K ≤ 6) (hK : tk_M st I) (hs : st.1 ≤ 975) : hg_MC l E (d + 4) Y_M_asks 0 0 [.ref (hg_ad E 21 0), .int (nI p), .int 4, .int x] (I, Lg, Rf, X) (hg_i (fun r M' => ∃ I' : Nat → Nat → Nat → Int32, r = (tk_A p v 4 (x) (st)).1 ∧ M' = (I', Lg, Rf, X) ∧ tk_M (tk_A p v 4 (x) (st)).2 I' ∧ hm_r I' I)) := by
  refine hg_mc k_M_asks (Nat.le_of_ble_eq_true rfl) ?_
  show hg_WP l E _ Y_M_asks 0 0 0 [some (.ref (hg_ad E 21 0)), some (.int (nI p)), some (.int 4), some (.int x)] [] (I, Lg, Rf, X) _
  refine hg_iload2 d_M_asks_0 ?_
  refine hg_tabI (off := 59) (tgt := 60) d_M_asks_1 (by decide) (by decide) rfl (by decide) ?_
  refine hg_aload0 d_M_asks_60 ?_
  refine hg_bipush (v := 50) d_M_asks_61 (by decide) ?_
  refine hg_cVv d_M_asks_63 l_M_307 rfl rfl (hX.lt (n := 1) ⟨by decide, by decide⟩ rfl (by omega)) rfl (Nat.le_of_ble_eq_true rfl) (m_M_ran (b := 50) hX hR hK (by omega)) rfl ?_
  rintro _ ⟨I2, rfl, hK2, hf2⟩
  refine hg_aload0 d_M_asks_66 ?_
  refine hg_iload1 d_M_asks_67 ?_
  refine hg_iconst (v := 1) d_M_asks_68 (by decide) ?_
  refine hg_iload3 d_M_asks_69 ?_
  have hb3 : (tk_r 50 (st)).1 ≤ 985 := by first | (show st.1 + 1 ≤ _; omega) | (omega)
  refine hg_cVi d_M_asks_70 l_M_311 rfl rfl (hX.lt (n := 1) ⟨by decide, by decide⟩ rfl (by omega)) rfl (Nat.le_of_ble_eq_true rfl) (m_M_asks1 (p := p) (v := v) (K := K) (x := x) (st := tk_r 50 (st)) hX hR (by rw [hf2.2.2 1 (by decide)]; exact hv) (by rw [hf2.2.2 0 (by decide)]; exact hk) hp hKk hK2 hb3) rfl ?_
  rintro _ _ ⟨I3, rfl, rfl, hK3, hf3⟩
  have hg3 := hm_r.tr hf3 hf2
  refine hg_ineg d_M_asks_73 ?_
  refine hg_ireturn d_M_asks_74 rfl rfl ?_
  exact ⟨_, rfl, rfl, hK3, hg3⟩

theorem m_M_asks5 {p K : Nat} {v x : Int32} (hX : hg_XS T X) (hR : hg_SR T Rf) (hv : I 22 1 p = v) (hk : I 22 0 p = nI K) (hp : p < 6) (hKk : K ≤ 6) (hK : tk_M st I) (hs : st.1 ≤ 970) : hg_MC l E (d + 4) Y_M_asks 0 0 [.ref (hg_ad E 21 0), .int (nI p), .int 5, .int x] (I, Lg, Rf, X) (hg_i (fun r M' => ∃ I' : Nat → Nat → Nat → Int32, r = (tk_A p v 5 (x) (st)).1 ∧ M' = (I', Lg, Rf, X) ∧ tk_M (tk_A p v 5 (x) (st)).2 I' ∧ hm_r I' I)) := by
  refine hg_mc k_M_asks (Nat.le_of_ble_eq_true rfl) ?_
  show hg_WP l E _ Y_M_asks 0 0 0 [some (.ref (hg_ad E 21 0)), some (.int (nI p)), some (.int 5), some (.int x)] [] (I, Lg, Rf, X) _
  refine hg_iload2 d_M_asks_0 ?_
  refine hg_tabI (off := 105) (tgt := 106) d_M_asks_1 (by decide) (by decide) rfl (by decide) ?_
  refine hg_aload0 d_M_asks_106 ?_
  refine hg_iload1 d_M_asks_107 ?_
  refine hg_iload2 d_M_asks_108 ?_
  refine hg_cSi d_M_asks_109 l_M_315 rfl (Nat.le_of_ble_eq_true rfl) (m_M_above) rfl ?_
  rintro _ _ ⟨rfl, rfl⟩
  refine hg_eq1 (y := 2) (by decide) ?_
  refine hg_iload3 d_M_asks_112 ?_
  have hb2 : (st).1 ≤ 980 := by omega
  refine hg_cVi d_M_asks_113 l_M_311 rfl rfl (hX.lt (n := 1) ⟨by decide, by decide⟩ rfl (by omega)) rfl (Nat.le_of_ble_eq_true rfl) (m_M_asks2 (p := p) (v := v) (K := K) (x := x) (st := st) hX hR hv hk hp hKk hK hb2) rfl ?_
  rintro _ _ ⟨I2, rfl, rfl, hK2, hf2⟩
  refine hg_ireturn d_M_asks_116 rfl rfl ?_
  exact ⟨_, rfl, rfl, hK2, hf2⟩

theorem m_M_asks6 {p K : Nat} {v x : Int32} (hX : hg_XS T X) (hR : hg_SR T Rf) (hv : I 22 1 p = v) (hk : I 22 0 p = nI K) (hp : p < 6) (hKk : K ≤ 6) (hK : tk_M st I) (hs : st.1 ≤ 970) : hg_MC l E (d + 4) Y_M_asks 0 0 [.ref (hg_ad E 21 0), .int (nI p), .int 6, .int x] (I, Lg, Rf, X) (hg_i (fun r M' => ∃ I' : Nat → Nat → Nat → Int32, r = (tk_A p v 6 (x) (st)).1 ∧ M' = (I', Lg, Rf, X) ∧ tk_M (tk_A p v 6 (x) (st)).2 I' ∧ hm_r I' I)) := by
  refine hg_mc k_M_asks (Nat.le_of_ble_eq_true rfl) ?_
  show hg_WP l E _ Y_M_asks 0 0 0 [some (.ref (hg_ad E 21 0)), some (.int (nI p)), some (.int 6), some (.int x)] [] (I, Lg, Rf, X) _
  refine hg_iload2 d_M_asks_0 ?_
  refine hg_tabI (off := 74) (tgt := 75) d_M_asks_1 (by decide) (by decide) rfl (by decide) ?_
  refine hg_aload0 d_M_asks_75 ?_
  refine hg_bipush (v := 71) d_M_asks_76 (by decide) ?_
  refine hg_cVv d_M_asks_78 l_M_307 rfl rfl (hX.lt (n := 1) ⟨by decide, by decide⟩ rfl (by omega)) rfl (Nat.le_of_ble_eq_true rfl) (m_M_ran (b := 71) hX hR hK (by omega)) rfl ?_
  rintro _ ⟨I2, rfl, hK2, hf2⟩
  refine hg_aload0 d_M_asks_81 ?_
  refine hg_iload1 d_M_asks_82 ?_
  refine hg_iconst (v := 3) d_M_asks_83 (by decide) ?_
  refine hg_iload3 d_M_asks_84 ?_
  have hb3 : (tk_r 71 (st)).1 ≤ 985 := by first | (show st.1 + 1 ≤ _; omega) | (omega)
  refine hg_cVi d_M_asks_85 l_M_311 rfl rfl (hX.lt (n := 1) ⟨by decide, by decide⟩ rfl (by omega)) rfl (Nat.le_of_ble_eq_true rfl) (m_M_asks3 (p := p) (v := v) (K := K) (x := x) (st := tk_r 71 (st)) hX hR (by rw [hf2.2.2 1 (by decide)]; exact hv) (by rw [hf2.2.2 0 (by decide)]; exact hk) hp hKk hK2 hb3) rfl ?_
  rintro _ _ ⟨I3, rfl, rfl, hK3, hf3⟩
  have hg3 := hm_r.tr hf3 hf2
  refine hg_aload0 d_M_asks_88 ?_
  refine hg_getR d_M_asks_89 f_M_15 rfl rfl (hX.lt (n := 1) ⟨by decide, by decide⟩ rfl (by omega)) (hR.m (j := 2) (q := (22, 1)) rfl) ?_
  refine hg_iload1 d_M_asks_92 ?_
  refine hg_iald_n (j := p) d_M_asks_93 rfl rfl (hX.lt (n := 28) ⟨by decide, by decide⟩ rfl (by omega)) (hX.jn (n := 6) (by decide) rfl (by omega)) ?_
  refine hg_eq1 (y := v) ((by rw [hg3.2.2 1 (by decide)]; exact hv)) ?_
  refine hg_ixor d_M_asks_94 ?_
  refine hg_ireturn d_M_asks_95 rfl rfl ?_
  exact ⟨_, rfl, rfl, hK3, hg3⟩

theorem m_M_asks {p K : Nat} {v x : Int32} (hX : hg_XS T X) (hR : hg_SR T Rf) (hv : I 22 1 p = v) (hk : I 22 0 p = nI K) (hp : p < 6) (hKk : K ≤ 6) (hK : tk_M st I) (hs : st.1 ≤ 970) : hg_MC l E (d + 4) Y_M_asks 0 0 [.ref (hg_ad E 21 0), .int (nI p), .int (nI K), .int x] (I, Lg, Rf, X) (hg_i (fun r M' => ∃ I' : Nat → Nat → Nat → Int32, r = (tk_A p v K (x) (st)).1 ∧ M' = (I', Lg, Rf, X) ∧ tk_M (tk_A p v K (x) (st)).2 I' ∧ hm_r I' I)) := by
  have h7 : K = 0 ∨ K = 1 ∨ K = 2 ∨ K = 3 ∨ K = 4 ∨ K = 5 ∨ K = 6 := by omega
  rcases h7 with rfl | rfl | rfl | rfl | rfl | rfl | rfl
  · exact m_M_asks0 hX hR hv hk hp hKk hK (by omega)
  · exact m_M_asks1 hX hR hv hk hp hKk hK (by omega)
  · exact m_M_asks2 hX hR hv hk hp hKk hK (by omega)
  · exact m_M_asks3 hX hR hv hk hp hKk hK (by omega)
  · exact m_M_asks4 hX hR hv hk hp hKk hK (by omega)
  · exact m_M_asks5 hX hR hv hk hp hKk hK (by omega)
  · exact m_M_asks6 hX hR hv hk hp hKk hK (by omega)
theorem m_M_talks0 {p K : Nat} {v x : Int32} (hX : hg_XS T X) (hR : hg_SR T Rf) (hv : I 22 1 p = v) (hk : I 22 0 p = nI K) (hp : p < 6) (hKk : K ≤ 6) (hK : tk_M st I) (hs : st.1 ≤ 960) : hg_MC l E (d + 5) Y_M_talks 0 0 [.ref (hg_ad E 21 0), .int (nI p), .int 0, .int x] (I, Lg, Rf, X) (hg_i (fun r M' => ∃ I' : Nat → Nat → Nat → Int32, r = (tk_T p v K 0 (x) (st)).1 ∧ M' = (I', Lg, Rf, X) ∧ tk_M (tk_T p v K 0 (x) (st)).2 I' ∧ hm_r I' I)) := by
  refine hg_mc k_M_talks (Nat.le_of_ble_eq_true rfl) ?_
  show hg_WP l E _ Y_M_talks 0 0 0 [some (.ref (hg_ad E 21 0)), some (.int (nI p)), some (.int 0), some (.int x), none] [] (I, Lg, Rf, X) _
  refine hg_iload2 d_M_talks_0 ?_
  refine hg_tabI (off := 102) (tgt := 103) d_M_talks_1 (by decide) (by decide) rfl (by decide) ?_
  refine hg_aload0 d_M_talks_103 ?_
  refine hg_bipush (v := 11) d_M_talks_104 (by decide) ?_
  refine hg_cVv d_M_talks_106 l_M_307 rfl rfl (hX.lt (n := 1) ⟨by decide, by decide⟩ rfl (by omega)) rfl (Nat.le_of_ble_eq_true rfl) (m_M_ran (b := 11) hX hR hK (by omega)) rfl ?_
  rintro _ ⟨I2, rfl, hK2, hf2⟩
  refine hg_aload0 d_M_talks_109 ?_
  refine hg_iload1 d_M_talks_110 ?_
  refine hg_aload0 d_M_talks_111 ?_
  refine hg_getR d_M_talks_112 f_M_9 rfl rfl (hX.lt (n := 1) ⟨by decide, by decide⟩ rfl (by omega)) (hR.m (j := 1) (q := (22, 0)) rfl) ?_
  refine hg_iload1 d_M_talks_115 ?_
  refine hg_iald_n (j := p) d_M_talks_116 rfl rfl (hX.lt (n := 28) ⟨by decide, by decide⟩ rfl (by omega)) (hX.jn (n := 6) (by decide) rfl (by omega)) ?_
  refine hg_eq1 (y := nI K) ((by rw [hf2.2.2 0 (by decide)]; exact hk)) ?_
  refine hg_iload3 d_M_talks_117 ?_
  have hb3 : (tk_r 11 (st)).1 ≤ 970 := by first | (show st.1 + 1 ≤ _; omega) | (omega)
  refine hg_cVi d_M_talks_118 l_M_311 rfl rfl (hX.lt (n := 1) ⟨by decide, by decide⟩ rfl (by omega)) rfl (Nat.le_of_ble_eq_true rfl) (m_M_asks (p := p) (v := v) (K := K) (x := x) (st := tk_r 11 (st)) hX hR (by rw [hf2.2.2 1 (by decide)]; exact hv) (by rw [hf2.2.2 0 (by decide)]; exact hk) hp hKk hK2 hb3) rfl ?_
  rintro _ _ ⟨I3, rfl, rfl, hK3, hf3⟩
  have hg3 := hm_r.tr hf3 hf2
  refine hg_aload0 d_M_talks_121 ?_
  refine hg_getR d_M_talks_122 f_M_15 rfl rfl (hX.lt (n := 1) ⟨by decide, by decide⟩ rfl (by omega)) (hR.m (j := 2) (q := (22, 1)) rfl) ?_
  refine hg_iload1 d_M_talks_125 ?_
  refine hg_iald_n (j := p) d_M_talks_126 rfl rfl (hX.lt (n := 28) ⟨by decide, by decide⟩ rfl (by omega)) (hX.jn (n := 6) (by decide) rfl (by omega)) ?_
  refine hg_eq1 (y := v) ((by rw [hg3.2.2 1 (by decide)]; exact hv)) ?_
  refine hg_isub d_M_talks_127 ?_
  refine hg_ireturn d_M_talks_128 rfl rfl ?_
  exact ⟨_, rfl, rfl, hK3, hg3⟩

theorem m_M_talks1 {p K : Nat} {v x : Int32} (hX : hg_XS T X) (hR : hg_SR T Rf) (hv : I 22 1 p = v) (hk : I 22 0 p = nI K) (hp : p < 6) (hKk : K ≤ 6) (hK : tk_M st I) (hs : st.1 ≤ 950) : hg_MC l E (d + 6) Y_M_talks 0 0 [.ref (hg_ad E 21 0), .int (nI p), .int 1, .int x] (I, Lg, Rf, X) (hg_i (fun r M' => ∃ I' : Nat → Nat → Nat → Int32, r = (tk_T p v K 1 (x) (st)).1 ∧ M' = (I', Lg, Rf, X) ∧ tk_M (tk_T p v K 1 (x) (st)).2 I' ∧ hm_r I' I)) := by
  refine hg_mc k_M_talks (Nat.le_of_ble_eq_true rfl) ?_
  show hg_WP l E _ Y_M_talks 0 0 0 [some (.ref (hg_ad E 21 0)), some (.int (nI p)), some (.int 1), some (.int x), none] [] (I, Lg, Rf, X) _
  refine hg_iload2 d_M_talks_0 ?_
  refine hg_tabI (off := 43) (tgt := 44) d_M_talks_1 (by decide) (by decide) rfl (by decide) ?_
  refine hg_aload0 d_M_talks_44 ?_
  refine hg_bipush (v := 20) d_M_talks_45 (by decide) ?_
  refine hg_cVv d_M_talks_47 l_M_307 rfl rfl (hX.lt (n := 1) ⟨by decide, by decide⟩ rfl (by omega)) rfl (Nat.le_of_ble_eq_true rfl) (m_M_ran (b := 20) hX hR hK (by omega)) rfl ?_
  rintro _ ⟨I2, rfl, hK2, hf2⟩
  refine hg_aload0 d_M_talks_50 ?_
  refine hg_iload1 d_M_talks_51 ?_
  refine hg_iconst (v := 0) d_M_talks_52 (by decide) ?_
  refine hg_iload3 d_M_talks_53 ?_
  have hb3 : (tk_r 20 (st)).1 ≤ 960 := by first | (show st.1 + 1 ≤ _; omega) | (omega)
  refine hg_cVi d_M_talks_54 l_M_318 rfl rfl (hX.lt (n := 1) ⟨by decide, by decide⟩ rfl (by omega)) rfl (Nat.le_of_ble_eq_true rfl) (m_M_talks0 (p := p) (v := v) (K := K) (x := x) (st := tk_r 20 (st)) hX hR (by rw [hf2.2.2 1 (by decide)]; exact hv) (by rw [hf2.2.2 0 (by decide)]; exact hk) hp hKk hK2 hb3) rfl ?_
  rintro _ _ ⟨I3, rfl, rfl, hK3, hf3⟩
  have hg3 := hm_r.tr hf3 hf2
  refine hg_bipush (v := 6) d_M_talks_57 (by decide) ?_
  refine hg_ixor d_M_talks_59 ?_
  refine hg_ireturn d_M_talks_60 rfl rfl ?_
  exact ⟨_, rfl, rfl, hK3, hg3⟩

theorem m_M_talks2 {p K : Nat} {v x : Int32} (hX : hg_XS T X) (hR : hg_SR T Rf) (hv : I 22 1 p = v) (hk : I 22 0 p = nI K) (hp : p < 6) (hKk : K ≤ 6) (hK : tk_M st I) (hs : st.1 ≤ 950) : hg_MC l E (d + 6) Y_M_talks 0 0 [.ref (hg_ad E 21 0), .int (nI p), .int 2, .int x] (I, Lg, Rf, X) (hg_i (fun r M' => ∃ I' : Nat → Nat → Nat → Int32, r = (tk_T p v K 2 (x) (st)).1 ∧ M' = (I', Lg, Rf, X) ∧ tk_M (tk_T p v K 2 (x) (st)).2 I' ∧ hm_r I' I)) := by
  refine hg_mc k_M_talks (Nat.le_of_ble_eq_true rfl) ?_
  show hg_WP l E _ Y_M_talks 0 0 0 [some (.ref (hg_ad E 21 0)), some (.int (nI p)), some (.int 2), some (.int x), none] [] (I, Lg, Rf, X) _
  refine hg_iload2 d_M_talks_0 ?_
  refine hg_tabI (off := 128) (tgt := 129) d_M_talks_1 (by decide) (by decide) rfl (by decide) ?_
  refine hg_aload0 d_M_talks_129 ?_
  refine hg_iload1 d_M_talks_130 ?_
  refine hg_iload2 d_M_talks_131 ?_
  refine hg_cSi d_M_talks_132 l_M_315 rfl (Nat.le_of_ble_eq_true rfl) (m_M_above) rfl ?_
  rintro _ _ ⟨rfl, rfl⟩
  refine hg_eq1 (y := 0) (by decide) ?_
  refine hg_iload3 d_M_talks_135 ?_
  have hb2 : (st).1 ≤ 960 := by omega
  refine hg_cVi d_M_talks_136 l_M_318 rfl rfl (hX.lt (n := 1) ⟨by decide, by decide⟩ rfl (by omega)) rfl (Nat.le_of_ble_eq_true rfl) (m_M_talks0 (p := p) (v := v) (K := K) (x := x) (st := st) hX hR hv hk hp hKk hK hb2) rfl ?_
  rintro _ _ ⟨I2, rfl, rfl, hK2, hf2⟩
  refine hg_ireturn d_M_talks_139 rfl rfl ?_
  exact ⟨_, rfl, rfl, hK2, hf2⟩

theorem m_M_talks3 {p K : Nat} {v x : Int32} (hX : hg_XS T X) (hR : hg_SR T Rf) (hv : I 22 1 p = v) (hk : I 22 0 p = nI K) (hp : p < 6) (hKk : K ≤ 6) (hK : tk_M st I) (hs : st.1 ≤ 950) : hg_MC l E (d + 6) Y_M_talks 0 0 [.ref (hg_ad E 21 0), .int (nI p), .int 3, .int x] (I, Lg, Rf, X) (hg_i (fun r M' => ∃ I' : Nat → Nat → Nat → Int32, r = (tk_T p v K 3 (x) (st)).1 ∧ M' = (I', Lg, Rf, X) ∧ tk_M (tk_T p v K 3 (x) (st)).2 I' ∧ hm_r I' I)) := by
  refine hg_mc k_M_talks (Nat.le_of_ble_eq_true rfl) ?_
  show hg_WP l E _ Y_M_talks 0 0 0 [some (.ref (hg_ad E 21 0)), some (.int (nI p)), some (.int 3), some (.int x), none] [] (I, Lg, Rf, X) _
  refine hg_iload2 d_M_talks_0 ?_
  refine hg_tabI (off := 128) (tgt := 129) d_M_talks_1 (by decide) (by decide) rfl (by decide) ?_
  refine hg_aload0 d_M_talks_129 ?_
  refine hg_iload1 d_M_talks_130 ?_
  refine hg_iload2 d_M_talks_131 ?_
  refine hg_cSi d_M_talks_132 l_M_315 rfl (Nat.le_of_ble_eq_true rfl) (m_M_above) rfl ?_
  rintro _ _ ⟨rfl, rfl⟩
  refine hg_eq1 (y := 0) (by decide) ?_
  refine hg_iload3 d_M_talks_135 ?_
  have hb2 : (st).1 ≤ 960 := by omega
  refine hg_cVi d_M_talks_136 l_M_318 rfl rfl (hX.lt (n := 1) ⟨by decide, by decide⟩ rfl (by omega)) rfl (Nat.le_of_ble_eq_true rfl) (m_M_talks0 (p := p) (v := v) (K := K) (x := x) (st := st) hX hR hv hk hp hKk hK hb2) rfl ?_
  rintro _ _ ⟨I2, rfl, rfl, hK2, hf2⟩
  refine hg_ireturn d_M_talks_139 rfl rfl ?_
  exact ⟨_, rfl, rfl, hK2, hf2⟩

theorem m_M_talks4 {p K : Nat} {v x : Int32} (hX : hg_XS T X) (hR : hg_SR T Rf) (hv : I 22 1 p = v) (hk : I 22 0 p = nI K) (hp : p < 6) (hKk : K ≤ 6) (hK : tk_M st I) (hs : st.1 ≤ 940) : hg_MC l E (d + 7) Y_M_talks 0 0 [.ref (hg_ad E 21 0), .int (nI p), .int 4, .int x] (I, Lg, Rf, X) (hg_i (fun r M' => ∃ I' : Nat → Nat → Nat → Int32, r = (tk_T p v K 4 (x) (st)).1 ∧ M' = (I', Lg, Rf, X) ∧ tk_M (tk_T p v K 4 (x) (st)).2 I' ∧ hm_r I' I)) := by
  refine hg_mc k_M_talks (Nat.le_of_ble_eq_true rfl) ?_
  show hg_WP l E _ Y_M_talks 0 0 0 [some (.ref (hg_ad E 21 0)), some (.int (nI p)), some (.int 4), some (.int x), none] [] (I, Lg, Rf, X) _
  refine hg_iload2 d_M_talks_0 ?_
  refine hg_tabI (off := 60) (tgt := 61) d_M_talks_1 (by decide) (by decide) rfl (by decide) ?_
  refine hg_aload0 d_M_talks_61 ?_
  refine hg_bipush (v := 51) d_M_talks_62 (by decide) ?_
  refine hg_cVv d_M_talks_64 l_M_307 rfl rfl (hX.lt (n := 1) ⟨by decide, by decide⟩ rfl (by omega)) rfl (Nat.le_of_ble_eq_true rfl) (m_M_ran (b := 51) hX hR hK (by omega)) rfl ?_
  rintro _ ⟨I2, rfl, hK2, hf2⟩
  refine hg_aload0 d_M_talks_67 ?_
  refine hg_iload1 d_M_talks_68 ?_
  refine hg_iconst (v := 1) d_M_talks_69 (by decide) ?_
  refine hg_iload3 d_M_talks_70 ?_
  refine hg_iconst (v := 1) d_M_talks_71 (by decide) ?_
  refine hg_iadd d_M_talks_72 ?_
  have hb3 : (tk_r 51 (st)).1 ≤ 950 := by first | (show st.1 + 1 ≤ _; omega) | (omega)
  refine hg_cVi d_M_talks_73 l_M_318 rfl rfl (hX.lt (n := 1) ⟨by decide, by decide⟩ rfl (by omega)) rfl (Nat.le_of_ble_eq_true rfl) (m_M_talks1 (p := p) (v := v) (K := K) (x := (x + 1)) (st := tk_r 51 (st)) hX hR (by rw [hf2.2.2 1 (by decide)]; exact hv) (by rw [hf2.2.2 0 (by decide)]; exact hk) hp hKk hK2 hb3) rfl ?_
  rintro _ _ ⟨I3, rfl, rfl, hK3, hf3⟩
  have hg3 := hm_r.tr hf3 hf2
  refine hg_ireturn d_M_talks_76 rfl rfl ?_
  exact ⟨_, rfl, rfl, hK3, hg3⟩

theorem m_M_talks5 {p K : Nat} {v x : Int32} (hX : hg_XS T X) (hR : hg_SR T Rf) (hv : I 22 1 p = v) (hk : I 22 0 p = nI K) (hp : p < 6) (hKk : K ≤ 6) (hK : tk_M st I) (hs : st.1 ≤ 940) : hg_MC l E (d + 7) Y_M_talks 0 0 [.ref (hg_ad E 21 0), .int (nI p), .int 5, .int x] (I, Lg, Rf, X) (hg_i (fun r M' => ∃ I' : Nat → Nat → Nat → Int32, r = (tk_T p v K 5 (x) (st)).1 ∧ M' = (I', Lg, Rf, X) ∧ tk_M (tk_T p v K 5 (x) (st)).2 I' ∧ hm_r I' I)) := by
  refine hg_mc k_M_talks (Nat.le_of_ble_eq_true rfl) ?_
  show hg_WP l E _ Y_M_talks 0 0 0 [some (.ref (hg_ad E 21 0)), some (.int (nI p)), some (.int 5), some (.int x), none] [] (I, Lg, Rf, X) _
  refine hg_iload2 d_M_talks_0 ?_
  refine hg_tabI (off := 128) (tgt := 129) d_M_talks_1 (by decide) (by decide) rfl (by decide) ?_
  refine hg_aload0 d_M_talks_129 ?_
  refine hg_iload1 d_M_talks_130 ?_
  refine hg_iload2 d_M_talks_131 ?_
  refine hg_cSi d_M_talks_132 l_M_315 rfl (Nat.le_of_ble_eq_true rfl) (m_M_above) rfl ?_
  rintro _ _ ⟨rfl, rfl⟩
  refine hg_eq1 (y := 2) (by decide) ?_
  refine hg_iload3 d_M_talks_135 ?_
  have hb2 : (st).1 ≤ 950 := by omega
  refine hg_cVi d_M_talks_136 l_M_318 rfl rfl (hX.lt (n := 1) ⟨by decide, by decide⟩ rfl (by omega)) rfl (Nat.le_of_ble_eq_true rfl) (m_M_talks2 (p := p) (v := v) (K := K) (x := x) (st := st) hX hR hv hk hp hKk hK hb2) rfl ?_
  rintro _ _ ⟨I2, rfl, rfl, hK2, hf2⟩
  refine hg_ireturn d_M_talks_139 rfl rfl ?_
  exact ⟨_, rfl, rfl, hK2, hf2⟩

theorem m_M_talks6 {p K : Nat} {v x : Int32} (hX : hg_XS T X) (hR : hg_SR T Rf) (hv : I 22 1 p = v) (hk : I 22 0 p = nI K) (hp : p < 6) (hKk : K ≤ 6) (hK : tk_M st I) (hs : st.1 ≤ 940) : hg_MC l E (d + 7) Y_M_talks 0 0 [.ref (hg_ad E 21 0), .int (nI p), .int 6, .int x] (I, Lg, Rf, X) (hg_i (fun r M' => ∃ I' : Nat → Nat → Nat → Int32, r = (tk_T p v K 6 (x) (st)).1 ∧ M' = (I', Lg, Rf, X) ∧ tk_M (tk_T p v K 6 (x) (st)).2 I' ∧ hm_r I' I)) := by
  refine hg_mc k_M_talks (Nat.le_of_ble_eq_true rfl) ?_
  show hg_WP l E _ Y_M_talks 0 0 0 [some (.ref (hg_ad E 21 0)), some (.int (nI p)), some (.int 6), some (.int x), none] [] (I, Lg, Rf, X) _
  refine hg_iload2 d_M_talks_0 ?_
  refine hg_tabI (off := 76) (tgt := 77) d_M_talks_1 (by decide) (by decide) rfl (by decide) ?_
  refine hg_aload0 d_M_talks_77 ?_
  refine hg_bipush (v := 70) d_M_talks_78 (by decide) ?_
  refine hg_cVv d_M_talks_80 l_M_307 rfl rfl (hX.lt (n := 1) ⟨by decide, by decide⟩ rfl (by omega)) rfl (Nat.le_of_ble_eq_true rfl) (m_M_ran (b := 70) hX hR hK (by omega)) rfl ?_
  rintro _ ⟨I2, rfl, hK2, hf2⟩
  refine hg_aload0 d_M_talks_83 ?_
  refine hg_iload1 d_M_talks_84 ?_
  refine hg_iconst (v := 3) d_M_talks_85 (by decide) ?_
  refine hg_iload3 d_M_talks_86 ?_
  have hb3 : (tk_r 70 (st)).1 ≤ 950 := by first | (show st.1 + 1 ≤ _; omega) | (omega)
  refine hg_cVi d_M_talks_87 l_M_318 rfl rfl (hX.lt (n := 1) ⟨by decide, by decide⟩ rfl (by omega)) rfl (Nat.le_of_ble_eq_true rfl) (m_M_talks3 (p := p) (v := v) (K := K) (x := x) (st := tk_r 70 (st)) hX hR (by rw [hf2.2.2 1 (by decide)]; exact hv) (by rw [hf2.2.2 0 (by decide)]; exact hk) hp hKk hK2 hb3) rfl ?_
  rintro _ _ ⟨I3, rfl, rfl, hK3, hf3⟩
  have hg3 := hm_r.tr hf3 hf2
  refine hg_istore4 d_M_talks_90 rfl ?_
  refine hg_iload4 d_M_talks_92 ?_
  refine hg_aload0 d_M_talks_94 ?_
  refine hg_iload1 d_M_talks_95 ?_
  refine hg_iconst (v := 3) d_M_talks_96 (by decide) ?_
  refine hg_iconst (v := 2) d_M_talks_97 (by decide) ?_
  have hb4 : ((tk_T p v K 3 (x) (tk_r 70 (st))).2).1 ≤ 985 := by first | (show st.1 + 1 ≤ _; omega) | (have := tk_T_le p v K 3 (x) (tk_r 70 (st)); have e1 : (tk_r 70 (st)).1 = st.1 + 1 := rfl; omega)
  refine hg_cVi d_M_talks_98 l_M_311 rfl rfl (hX.lt (n := 1) ⟨by decide, by decide⟩ rfl (by omega)) rfl (Nat.le_of_ble_eq_true rfl) (m_M_asks3 (p := p) (v := v) (K := K) (x := 2) (st := (tk_T p v K 3 (x) (tk_r 70 (st))).2) hX hR (by rw [hg3.2.2 1 (by decide)]; exact hv) (by rw [hg3.2.2 0 (by decide)]; exact hk) hp hKk hK3 hb4) rfl ?_
  rintro _ _ ⟨I4, rfl, rfl, hK4, hf4⟩
  have hg4 := hm_r.tr hf4 hg3
  refine hg_iadd d_M_talks_101 ?_
  refine hg_ireturn d_M_talks_102 rfl rfl ?_
  exact ⟨_, rfl, rfl, hK4, hg4⟩

theorem m_M_talks {p K : Nat} {v x : Int32} (hX : hg_XS T X) (hR : hg_SR T Rf) (hv : I 22 1 p = v) (hk : I 22 0 p = nI K) (hp : p < 6) (hKk : K ≤ 6) (hK : tk_M st I) (hs : st.1 ≤ 940) : hg_MC l E (d + 7) Y_M_talks 0 0 [.ref (hg_ad E 21 0), .int (nI p), .int (nI K), .int x] (I, Lg, Rf, X) (hg_i (fun r M' => ∃ I' : Nat → Nat → Nat → Int32, r = (tk_T p v K K (x) (st)).1 ∧ M' = (I', Lg, Rf, X) ∧ tk_M (tk_T p v K K (x) (st)).2 I' ∧ hm_r I' I)) := by
  have h7 : K = 0 ∨ K = 1 ∨ K = 2 ∨ K = 3 ∨ K = 4 ∨ K = 5 ∨ K = 6 := by omega
  rcases h7 with rfl | rfl | rfl | rfl | rfl | rfl | rfl
  · exact m_M_talks0 hX hR hv hk hp hKk hK (by omega)
  · exact m_M_talks1 hX hR hv hk hp hKk hK (by omega)
  · exact m_M_talks2 hX hR hv hk hp hKk hK (by omega)
  · exact m_M_talks3 hX hR hv hk hp hKk hK (by omega)
  · exact m_M_talks4 hX hR hv hk hp hKk hK (by omega)
  · exact m_M_talks5 hX hR hv hk hp hKk hK (by omega)
  · exact m_M_talks6 hX hR hv hk hp hKk hK (by omega)
theorem m_M_tells0 {p K : Nat} {v x : Int32} (hX : hg_XS T X) (hR : hg_SR T Rf) (hv : I 22 1 p = v) (hk : I 22 0 p = nI K) (hp : p < 6) (hKk : K ≤ 6) (hK : tk_M st I) (hs : st.1 ≤ 930) : hg_MC l E (d + 8) Y_M_tells 0 0 [.ref (hg_ad E 21 0), .int (nI p), .int 0, .int x] (I, Lg, Rf, X) (hg_i (fun r M' => ∃ I' : Nat → Nat → Nat → Int32, r = (tk_L p v K 0 (x) (st)).1 ∧ M' = (I', Lg, Rf, X) ∧ tk_M (tk_L p v K 0 (x) (st)).2 I' ∧ hm_r I' I)) := by
  refine hg_mc k_M_tells (Nat.le_of_ble_eq_true rfl) ?_
  show hg_WP l E _ Y_M_tells 0 0 0 [some (.ref (hg_ad E 21 0)), some (.int (nI p)), some (.int 0), some (.int x), none] [] (I, Lg, Rf, X) _
  refine hg_iload2 d_M_tells_0 ?_
  refine hg_look (off := 82) (tgt := 83) d_M_tells_1 (by decide) (by decide) (by decide) ?_
  refine hg_aload0 d_M_tells_83 ?_
  refine hg_bipush (v := 12) d_M_tells_84 (by decide) ?_
  refine hg_cVv d_M_tells_86 l_M_307 rfl rfl (hX.lt (n := 1) ⟨by decide, by decide⟩ rfl (by omega)) rfl (Nat.le_of_ble_eq_true rfl) (m_M_ran (b := 12) hX hR hK (by omega)) rfl ?_
  rintro _ ⟨I2, rfl, hK2, hf2⟩
  refine hg_aload0 d_M_tells_89 ?_
  refine hg_iload1 d_M_tells_90 ?_
  refine hg_aload0 d_M_tells_91 ?_
  refine hg_getR d_M_tells_92 f_M_9 rfl rfl (hX.lt (n := 1) ⟨by decide, by decide⟩ rfl (by omega)) (hR.m (j := 1) (q := (22, 0)) rfl) ?_
  refine hg_iload1 d_M_tells_95 ?_
  refine hg_iald_n (j := p) d_M_tells_96 rfl rfl (hX.lt (n := 28) ⟨by decide, by decide⟩ rfl (by omega)) (hX.jn (n := 6) (by decide) rfl (by omega)) ?_
  refine hg_eq1 (y := nI K) ((by rw [hf2.2.2 0 (by decide)]; exact hk)) ?_
  refine hg_iload3 d_M_tells_97 ?_
  have hb3 : (tk_r 12 (st)).1 ≤ 940 := by first | (show st.1 + 1 ≤ _; omega) | (omega)
  refine hg_cVi d_M_tells_98 l_M_318 rfl rfl (hX.lt (n := 1) ⟨by decide, by decide⟩ rfl (by omega)) rfl (Nat.le_of_ble_eq_true rfl) (m_M_talks (p := p) (v := v) (K := K) (x := x) (st := tk_r 12 (st)) hX hR (by rw [hf2.2.2 1 (by decide)]; exact hv) (by rw [hf2.2.2 0 (by decide)]; exact hk) hp hKk hK2 hb3) rfl ?_
  rintro _ _ ⟨I3, rfl, rfl, hK3, hf3⟩
  have hg3 := hm_r.tr hf3 hf2
  refine hg_iconst (v := 2) d_M_tells_101 (by decide) ?_
  refine hg_imul d_M_tells_102 ?_
  refine hg_ireturn d_M_tells_103 rfl rfl ?_
  exact ⟨_, rfl, rfl, hK3, hg3⟩

theorem m_M_tells1 {p K : Nat} {v x : Int32} (hX : hg_XS T X) (hR : hg_SR T Rf) (hv : I 22 1 p = v) (hk : I 22 0 p = nI K) (hp : p < 6) (hKk : K ≤ 6) (hK : tk_M st I) (hs : st.1 ≤ 920) : hg_MC l E (d + 9) Y_M_tells 0 0 [.ref (hg_ad E 21 0), .int (nI p), .int 1, .int x] (I, Lg, Rf, X) (hg_i (fun r M' => ∃ I' : Nat → Nat → Nat → Int32, r = (tk_L p v K 1 (x) (st)).1 ∧ M' = (I', Lg, Rf, X) ∧ tk_M (tk_L p v K 1 (x) (st)).2 I' ∧ hm_r I' I)) := by
  refine hg_mc k_M_tells (Nat.le_of_ble_eq_true rfl) ?_
  show hg_WP l E _ Y_M_tells 0 0 0 [some (.ref (hg_ad E 21 0)), some (.int (nI p)), some (.int 1), some (.int x), none] [] (I, Lg, Rf, X) _
  refine hg_iload2 d_M_tells_0 ?_
  refine hg_look (off := 103) (tgt := 104) d_M_tells_1 (by decide) (by decide) (by decide) ?_
  refine hg_aload0 d_M_tells_104 ?_
  refine hg_iload1 d_M_tells_105 ?_
  refine hg_iload2 d_M_tells_106 ?_
  refine hg_cSi d_M_tells_107 l_M_315 rfl (Nat.le_of_ble_eq_true rfl) (m_M_above) rfl ?_
  rintro _ _ ⟨rfl, rfl⟩
  refine hg_eq1 (y := 0) (by decide) ?_
  refine hg_iload3 d_M_tells_110 ?_
  have hb2 : (st).1 ≤ 930 := by omega
  refine hg_cVi d_M_tells_111 l_M_321 rfl rfl (hX.lt (n := 1) ⟨by decide, by decide⟩ rfl (by omega)) rfl (Nat.le_of_ble_eq_true rfl) (m_M_tells0 (p := p) (v := v) (K := K) (x := x) (st := st) hX hR hv hk hp hKk hK hb2) rfl ?_
  rintro _ _ ⟨I2, rfl, rfl, hK2, hf2⟩
  refine hg_ireturn d_M_tells_114 rfl rfl ?_
  exact ⟨_, rfl, rfl, hK2, hf2⟩

theorem m_M_tells2 {p K : Nat} {v x : Int32} (hX : hg_XS T X) (hR : hg_SR T Rf) (hv : I 22 1 p = v) (hk : I 22 0 p = nI K) (hp : p < 6) (hKk : K ≤ 6) (hK : tk_M st I) (hs : st.1 ≤ 920) : hg_MC l E (d + 9) Y_M_tells 0 0 [.ref (hg_ad E 21 0), .int (nI p), .int 2, .int x] (I, Lg, Rf, X) (hg_i (fun r M' => ∃ I' : Nat → Nat → Nat → Int32, r = (tk_L p v K 2 (x) (st)).1 ∧ M' = (I', Lg, Rf, X) ∧ tk_M (tk_L p v K 2 (x) (st)).2 I' ∧ hm_r I' I)) := by
  refine hg_mc k_M_tells (Nat.le_of_ble_eq_true rfl) ?_
  show hg_WP l E _ Y_M_tells 0 0 0 [some (.ref (hg_ad E 21 0)), some (.int (nI p)), some (.int 2), some (.int x), none] [] (I, Lg, Rf, X) _
  refine hg_iload2 d_M_tells_0 ?_
  refine hg_look (off := 103) (tgt := 104) d_M_tells_1 (by decide) (by decide) (by decide) ?_
  refine hg_aload0 d_M_tells_104 ?_
  refine hg_iload1 d_M_tells_105 ?_
  refine hg_iload2 d_M_tells_106 ?_
  refine hg_cSi d_M_tells_107 l_M_315 rfl (Nat.le_of_ble_eq_true rfl) (m_M_above) rfl ?_
  rintro _ _ ⟨rfl, rfl⟩
  refine hg_eq1 (y := 0) (by decide) ?_
  refine hg_iload3 d_M_tells_110 ?_
  have hb2 : (st).1 ≤ 930 := by omega
  refine hg_cVi d_M_tells_111 l_M_321 rfl rfl (hX.lt (n := 1) ⟨by decide, by decide⟩ rfl (by omega)) rfl (Nat.le_of_ble_eq_true rfl) (m_M_tells0 (p := p) (v := v) (K := K) (x := x) (st := st) hX hR hv hk hp hKk hK hb2) rfl ?_
  rintro _ _ ⟨I2, rfl, rfl, hK2, hf2⟩
  refine hg_ireturn d_M_tells_114 rfl rfl ?_
  exact ⟨_, rfl, rfl, hK2, hf2⟩

theorem m_M_tells3 {p K : Nat} {v x : Int32} (hX : hg_XS T X) (hR : hg_SR T Rf) (hv : I 22 1 p = v) (hk : I 22 0 p = nI K) (hp : p < 6) (hKk : K ≤ 6) (hK : tk_M st I) (hs : st.1 ≤ 920) : hg_MC l E (d + 9) Y_M_tells 0 0 [.ref (hg_ad E 21 0), .int (nI p), .int 3, .int x] (I, Lg, Rf, X) (hg_i (fun r M' => ∃ I' : Nat → Nat → Nat → Int32, r = (tk_L p v K 3 (x) (st)).1 ∧ M' = (I', Lg, Rf, X) ∧ tk_M (tk_L p v K 3 (x) (st)).2 I' ∧ hm_r I' I)) := by
  refine hg_mc k_M_tells (Nat.le_of_ble_eq_true rfl) ?_
  show hg_WP l E _ Y_M_tells 0 0 0 [some (.ref (hg_ad E 21 0)), some (.int (nI p)), some (.int 3), some (.int x), none] [] (I, Lg, Rf, X) _
  refine hg_iload2 d_M_tells_0 ?_
  refine hg_look (off := 35) (tgt := 36) d_M_tells_1 (by decide) (by decide) (by decide) ?_
  refine hg_aload0 d_M_tells_36 ?_
  refine hg_bipush (v := 40) d_M_tells_37 (by decide) ?_
  refine hg_cVv d_M_tells_39 l_M_307 rfl rfl (hX.lt (n := 1) ⟨by decide, by decide⟩ rfl (by omega)) rfl (Nat.le_of_ble_eq_true rfl) (m_M_ran (b := 40) hX hR hK (by omega)) rfl ?_
  rintro _ ⟨I2, rfl, hK2, hf2⟩
  refine hg_aload0 d_M_tells_42 ?_
  refine hg_iload1 d_M_tells_43 ?_
  refine hg_iconst (v := 0) d_M_tells_44 (by decide) ?_
  refine hg_iload3 d_M_tells_45 ?_
  have hb3 : (tk_r 40 (st)).1 ≤ 930 := by first | (show st.1 + 1 ≤ _; omega) | (omega)
  refine hg_cVi d_M_tells_46 l_M_321 rfl rfl (hX.lt (n := 1) ⟨by decide, by decide⟩ rfl (by omega)) rfl (Nat.le_of_ble_eq_true rfl) (m_M_tells0 (p := p) (v := v) (K := K) (x := x) (st := tk_r 40 (st)) hX hR (by rw [hf2.2.2 1 (by decide)]; exact hv) (by rw [hf2.2.2 0 (by decide)]; exact hk) hp hKk hK2 hb3) rfl ?_
  rintro _ _ ⟨I3, rfl, rfl, hK3, hf3⟩
  have hg3 := hm_r.tr hf3 hf2
  refine hg_istore4 d_M_tells_49 rfl ?_
  refine hg_iload4 d_M_tells_51 ?_
  refine hg_aload0 d_M_tells_53 ?_
  refine hg_iload1 d_M_tells_54 ?_
  refine hg_aload0 d_M_tells_55 ?_
  refine hg_getR d_M_tells_56 f_M_9 rfl rfl (hX.lt (n := 1) ⟨by decide, by decide⟩ rfl (by omega)) (hR.m (j := 1) (q := (22, 0)) rfl) ?_
  refine hg_iload1 d_M_tells_59 ?_
  refine hg_iald_n (j := p) d_M_tells_60 rfl rfl (hX.lt (n := 28) ⟨by decide, by decide⟩ rfl (by omega)) (hX.jn (n := 6) (by decide) rfl (by omega)) ?_
  refine hg_eq1 (y := nI K) ((by rw [hg3.2.2 0 (by decide)]; exact hk)) ?_
  refine hg_iconst (v := 1) d_M_tells_61 (by decide) ?_
  have hb4 : ((tk_L p v K 0 (x) (tk_r 40 (st))).2).1 ≤ 940 := by first | (show st.1 + 1 ≤ _; omega) | (have := tk_L0_le p v K (x) (tk_r 40 (st)); have e1 : (tk_r 40 (st)).1 = st.1 + 1 := rfl; exact Nat.le_trans this (by omega))
  refine hg_cVi d_M_tells_62 l_M_318 rfl rfl (hX.lt (n := 1) ⟨by decide, by decide⟩ rfl (by omega)) rfl (Nat.le_of_ble_eq_true rfl) (m_M_talks (p := p) (v := v) (K := K) (x := 1) (st := (tk_L p v K 0 (x) (tk_r 40 (st))).2) hX hR (by rw [hg3.2.2 1 (by decide)]; exact hv) (by rw [hg3.2.2 0 (by decide)]; exact hk) hp hKk hK3 hb4) rfl ?_
  rintro _ _ ⟨I4, rfl, rfl, hK4, hf4⟩
  have hg4 := hm_r.tr hf4 hg3
  refine hg_iadd d_M_tells_65 ?_
  refine hg_ireturn d_M_tells_66 rfl rfl ?_
  exact ⟨_, rfl, rfl, hK4, hg4⟩

theorem m_M_tells4 {p K : Nat} {v x : Int32} (hX : hg_XS T X) (hR : hg_SR T Rf) (hv : I 22 1 p = v) (hk : I 22 0 p = nI K) (hp : p < 6) (hKk : K ≤ 6) (hK : tk_M st I) (hs : st.1 ≤ 910) : hg_MC l E (d + 10) Y_M_tells 0 0 [.ref (hg_ad E 21 0), .int (nI p), .int 4, .int x] (I, Lg, Rf, X) (hg_i (fun r M' => ∃ I' : Nat → Nat → Nat → Int32, r = (tk_L p v K 4 (x) (st)).1 ∧ M' = (I', Lg, Rf, X) ∧ tk_M (tk_L p v K 4 (x) (st)).2 I' ∧ hm_r I' I)) := by
  refine hg_mc k_M_tells (Nat.le_of_ble_eq_true rfl) ?_
  show hg_WP l E _ Y_M_tells 0 0 0 [some (.ref (hg_ad E 21 0)), some (.int (nI p)), some (.int 4), some (.int x), none] [] (I, Lg, Rf, X) _
  refine hg_iload2 d_M_tells_0 ?_
  refine hg_look (off := 103) (tgt := 104) d_M_tells_1 (by decide) (by decide) (by decide) ?_
  refine hg_aload0 d_M_tells_104 ?_
  refine hg_iload1 d_M_tells_105 ?_
  refine hg_iload2 d_M_tells_106 ?_
  refine hg_cSi d_M_tells_107 l_M_315 rfl (Nat.le_of_ble_eq_true rfl) (m_M_above) rfl ?_
  rintro _ _ ⟨rfl, rfl⟩
  refine hg_eq1 (y := 1) (by decide) ?_
  refine hg_iload3 d_M_tells_110 ?_
  have hb2 : (st).1 ≤ 920 := by omega
  refine hg_cVi d_M_tells_111 l_M_321 rfl rfl (hX.lt (n := 1) ⟨by decide, by decide⟩ rfl (by omega)) rfl (Nat.le_of_ble_eq_true rfl) (m_M_tells1 (p := p) (v := v) (K := K) (x := x) (st := st) hX hR hv hk hp hKk hK hb2) rfl ?_
  rintro _ _ ⟨I2, rfl, rfl, hK2, hf2⟩
  refine hg_ireturn d_M_tells_114 rfl rfl ?_
  exact ⟨_, rfl, rfl, hK2, hf2⟩

theorem m_M_tells5 {p K : Nat} {v x : Int32} (hX : hg_XS T X) (hR : hg_SR T Rf) (hv : I 22 1 p = v) (hk : I 22 0 p = nI K) (hp : p < 6) (hKk : K ≤ 6) (hK : tk_M st I) (hs : st.1 ≤ 910) : hg_MC l E (d + 10) Y_M_tells 0 0 [.ref (hg_ad E 21 0), .int (nI p), .int 5, .int x] (I, Lg, Rf, X) (hg_i (fun r M' => ∃ I' : Nat → Nat → Nat → Int32, r = (tk_L p v K 5 (x) (st)).1 ∧ M' = (I', Lg, Rf, X) ∧ tk_M (tk_L p v K 5 (x) (st)).2 I' ∧ hm_r I' I)) := by
  refine hg_mc k_M_tells (Nat.le_of_ble_eq_true rfl) ?_
  show hg_WP l E _ Y_M_tells 0 0 0 [some (.ref (hg_ad E 21 0)), some (.int (nI p)), some (.int 5), some (.int x), none] [] (I, Lg, Rf, X) _
  refine hg_iload2 d_M_tells_0 ?_
  refine hg_look (off := 66) (tgt := 67) d_M_tells_1 (by decide) (by decide) (by decide) ?_
  refine hg_aload0 d_M_tells_67 ?_
  refine hg_bipush (v := 60) d_M_tells_68 (by decide) ?_
  refine hg_cVv d_M_tells_70 l_M_307 rfl rfl (hX.lt (n := 1) ⟨by decide, by decide⟩ rfl (by omega)) rfl (Nat.le_of_ble_eq_true rfl) (m_M_ran (b := 60) hX hR hK (by omega)) rfl ?_
  rintro _ ⟨I2, rfl, hK2, hf2⟩
  refine hg_aload0 d_M_tells_73 ?_
  refine hg_iload1 d_M_tells_74 ?_
  refine hg_iconst (v := 2) d_M_tells_75 (by decide) ?_
  refine hg_iload3 d_M_tells_76 ?_
  refine hg_iload1 d_M_tells_77 ?_
  refine hg_isub d_M_tells_78 ?_
  have hb3 : (tk_r 60 (st)).1 ≤ 920 := by first | (show st.1 + 1 ≤ _; omega) | (omega)
  refine hg_cVi d_M_tells_79 l_M_321 rfl rfl (hX.lt (n := 1) ⟨by decide, by decide⟩ rfl (by omega)) rfl (Nat.le_of_ble_eq_true rfl) (m_M_tells2 (p := p) (v := v) (K := K) (x := (x - (nI p))) (st := tk_r 60 (st)) hX hR (by rw [hf2.2.2 1 (by decide)]; exact hv) (by rw [hf2.2.2 0 (by decide)]; exact hk) hp hKk hK2 hb3) rfl ?_
  rintro _ _ ⟨I3, rfl, rfl, hK3, hf3⟩
  have hg3 := hm_r.tr hf3 hf2
  refine hg_ireturn d_M_tells_82 rfl rfl ?_
  exact ⟨_, rfl, rfl, hK3, hg3⟩

theorem m_M_tells6 {p K : Nat} {v x : Int32} (hX : hg_XS T X) (hR : hg_SR T Rf) (hv : I 22 1 p = v) (hk : I 22 0 p = nI K) (hp : p < 6) (hKk : K ≤ 6) (hK : tk_M st I) (hs : st.1 ≤ 910) : hg_MC l E (d + 10) Y_M_tells 0 0 [.ref (hg_ad E 21 0), .int (nI p), .int 6, .int x] (I, Lg, Rf, X) (hg_i (fun r M' => ∃ I' : Nat → Nat → Nat → Int32, r = (tk_L p v K 6 (x) (st)).1 ∧ M' = (I', Lg, Rf, X) ∧ tk_M (tk_L p v K 6 (x) (st)).2 I' ∧ hm_r I' I)) := by
  refine hg_mc k_M_tells (Nat.le_of_ble_eq_true rfl) ?_
  show hg_WP l E _ Y_M_tells 0 0 0 [some (.ref (hg_ad E 21 0)), some (.int (nI p)), some (.int 6), some (.int x), none] [] (I, Lg, Rf, X) _
  refine hg_iload2 d_M_tells_0 ?_
  refine hg_look (off := 103) (tgt := 104) d_M_tells_1 (by decide) (by decide) (by decide) ?_
  refine hg_aload0 d_M_tells_104 ?_
  refine hg_iload1 d_M_tells_105 ?_
  refine hg_iload2 d_M_tells_106 ?_
  refine hg_cSi d_M_tells_107 l_M_315 rfl (Nat.le_of_ble_eq_true rfl) (m_M_above) rfl ?_
  rintro _ _ ⟨rfl, rfl⟩
  refine hg_eq1 (y := 3) (by decide) ?_
  refine hg_iload3 d_M_tells_110 ?_
  have hb2 : (st).1 ≤ 920 := by omega
  refine hg_cVi d_M_tells_111 l_M_321 rfl rfl (hX.lt (n := 1) ⟨by decide, by decide⟩ rfl (by omega)) rfl (Nat.le_of_ble_eq_true rfl) (m_M_tells3 (p := p) (v := v) (K := K) (x := x) (st := st) hX hR hv hk hp hKk hK hb2) rfl ?_
  rintro _ _ ⟨I2, rfl, rfl, hK2, hf2⟩
  refine hg_ireturn d_M_tells_114 rfl rfl ?_
  exact ⟨_, rfl, rfl, hK2, hf2⟩

theorem m_M_tells {p K : Nat} {v x : Int32} (hX : hg_XS T X) (hR : hg_SR T Rf) (hv : I 22 1 p = v) (hk : I 22 0 p = nI K) (hp : p < 6) (hKk : K ≤ 6) (hK : tk_M st I) (hs : st.1 ≤ 910) : hg_MC l E (d + 10) Y_M_tells 0 0 [.ref (hg_ad E 21 0), .int (nI p), .int (nI K), .int x] (I, Lg, Rf, X) (hg_i (fun r M' => ∃ I' : Nat → Nat → Nat → Int32, r = (tk_L p v K K (x) (st)).1 ∧ M' = (I', Lg, Rf, X) ∧ tk_M (tk_L p v K K (x) (st)).2 I' ∧ hm_r I' I)) := by
  have h7 : K = 0 ∨ K = 1 ∨ K = 2 ∨ K = 3 ∨ K = 4 ∨ K = 5 ∨ K = 6 := by omega
  rcases h7 with rfl | rfl | rfl | rfl | rfl | rfl | rfl
  · exact m_M_tells0 hX hR hv hk hp hKk hK (by omega)
  · exact m_M_tells1 hX hR hv hk hp hKk hK (by omega)
  · exact m_M_tells2 hX hR hv hk hp hKk hK (by omega)
  · exact m_M_tells3 hX hR hv hk hp hKk hK (by omega)
  · exact m_M_tells4 hX hR hv hk hp hKk hK (by omega)
  · exact m_M_tells5 hX hR hv hk hp hKk hK (by omega)
  · exact m_M_tells6 hX hR hv hk hp hKk hK (by omega)
end M44
section M44b
variable {l : Launch} {E : hg_E} {d : Nat}
variable {I : Nat → Nat → Nat → Int32} {Lg : Nat → Nat → Nat → Int64} {Rf : Nat → Nat → Nat → Option (Nat × Nat)} {X : Nat × (Nat → Nat) × (Nat → Nat → Nat)}
variable {G : hs_G}variable {I' I1 : Nat → Nat → Nat → Int32}
theorem m_M_act {x y z : Int32} (hX : hg_XS (gT G) X) (hR : hg_SR (gT G) Rf) (hM0 : hs_MR G I Lg) (hG : hs_gok G) : hg_MC l E (d + 11) Y_M_act 0 0 [.ref (hg_ad E 21 0), .int x, .int y, .int z] (I, Lg, Rf, X) (hg_i (fun v M' => hs_MP v (so_act G x y z).1 (so_act G x y z).2 I Lg Rf X M')) := by
  have hM := hM0.1.1
  have hO := hG.1
  have hn6 := hO.1
  have hT := hM0.2.2.2.2.2.2.2
  have hw := hG.2.1
  refine hg_mc k_M_act (Nat.le_of_ble_eq_true rfl) ?_
  show hg_WP l E _ Y_M_act 0 0 0 [some (.ref (hg_ad E 21 0)), some (.int x), some (.int y), some (.int z), none] [] (I, Lg, Rf, X) _
  refine hg_aload0 d_M_act_0 ?_
  refine hg_iconst (v := 0) d_M_act_1 (by decide) ?_
  refine hg_putI d_M_act_2 f_M_304 rfl rfl (Or.inl rfl) rfl rfl (hX.lt (n := 1) ⟨by decide, by decide⟩ rfl (by omega)) ?_
  have hM1 : hs_MR (gsK G (0, (gK G).2)) (hg_u3 I 21 0 39 0) Lg := hM0.K (fun r _ => by funext z; exact hg_u3k (by omega)) (fun j hj => by rw [hg_u3r, if_neg hj]) ⟨by rw [hg_u3s]; rfl, fun j hj => (hg_u3k (by decide)).trans (hM0.2.2.2.2.2.1.2 j hj)⟩
  have hK1 : tk_M (0, (gK G).2) (hg_u3 I 21 0 39 0) := ⟨by rw [hg_u3s]; rfl, fun j hj => (hg_u3k (by decide)).trans (hM0.2.2.2.2.2.1.2 j hj)⟩
  have hlo1 : ∀ k, k < 21 → (hg_u3 I 21 0 39 0) k = I k := fun k hk => by funext a b; exact hg_u3k (by omega)
  have hM2 : hs_MS (gN G) (hg_u3 I 21 0 39 0) := hM1.1.1
  generalize hI1 : (hg_u3 I 21 0 39 0) = I1 at hM1 hK1 hlo1 hM2 ⊢
  refine hg_aload0 d_M_act_5 ?_
  refine hg_iload1 d_M_act_6 ?_
  refine hg_cVi d_M_act_7 l_M_115 rfl rfl (hX.lt (n := 1) ⟨by decide, by decide⟩ rfl (by omega)) rfl (Nat.le_of_ble_eq_true rfl) (m_M_isOne hX hM2.1 hn6) rfl ?_
  rintro _ _ ⟨⟨hha, rfl⟩ | ⟨hha, rfl⟩, rfl⟩
  · obtain ⟨h, hh, eh⟩ := hha
    have iha : hs_ix (hs_n (gN G)) x = some h := by rw [eh]; exact hs_ix_s hh (by omega)
    subst eh
    show hg_WP l E _ Y_M_act 0 0 10 [some (.ref (hg_ad E 21 0)), some (.int (nI h)), some (.int y), some (.int z), none] [.int 1] (I1, Lg, Rf, X) _
    refine hg_if_eq (tgt := 22) d_M_act_10 (by decide) (fun h_1 => absurd h_1 (by decide)) (fun h_1 => ?_)
    refine hg_iload2 d_M_act_13 ?_
    refine hg_iconst (v := 0) d_M_act_14 (by decide) ?_
    refine hg_iconst (v := 2) d_M_act_15 (by decide) ?_
    refine hg_cSi d_M_act_16 l_M_111 rfl (Nat.le_of_ble_eq_true rfl) (m_M_in0 (b := 2) (by decide)) rfl ?_
    rintro _ _ ⟨⟨hhb, rfl⟩ | ⟨hhb, rfl⟩, rfl⟩
    · obtain ⟨j, hj, ej⟩ := hhb
      have ihb : hs_ix 3 y = some j := by rw [ej]; exact hs_ix_s (by omega) (by decide)
      subst ej
      show hg_WP l E _ Y_M_act 0 0 19 [some (.ref (hg_ad E 21 0)), some (.int (nI h)), some (.int (nI j)), some (.int z), none] [.int 1] (I1, Lg, Rf, X) _
      refine hg_if_ne (tgt := 24) d_M_act_19 (by decide) (fun h_2 => ?_) (fun h_2 => absurd (by decide) h_2)
      have h6_j : j = 0 ∨ j = 1 ∨ j = 2 := by omega
      rcases h6_j with rfl | rfl | rfl
      · show hg_WP l E _ Y_M_act 0 0 24 [some (.ref (hg_ad E 21 0)), some (.int (nI h)), some (.int 0), some (.int z), none] [] (I1, Lg, Rf, X) _
        replace ihb : hs_ix 3 0 = some 0 := ihb
        refine hg_aload0 d_M_act_24 ?_
        refine hg_getR d_M_act_25 f_M_9 rfl rfl (hX.lt (n := 1) ⟨by decide, by decide⟩ rfl (by omega)) (hR.m (j := 1) (q := (22, 0)) rfl) ?_
        refine hg_iload1 d_M_act_28 ?_
        refine hg_iald_n (j := h) d_M_act_29 rfl rfl (hX.lt (n := 28) ⟨by decide, by decide⟩ rfl (by omega)) (hX.jn (n := 6) (by decide) rfl (by omega)) ?_
        refine hg_eq1 (y := hs_hv (gN G) h 0) (hM2.2.2.2.2.2.2.2.1 h 0 (by assumption) (by decide)) ?_
        obtain ⟨K, hK6, eK⟩ := (hO.2.2.2.2.1 h hh).1
        have hk2 : I1 22 0 h = nI K := (hM2.2.2.2.2.2.2.2.1 h 0 hh (by decide)).trans eK
        have hv2 : I1 22 1 h = hs_hv (gN G) h 1 := hM2.2.2.2.2.2.2.2.1 h 1 hh (by decide)
        refine hg_eq1 (y := nI K) eK ?_
        refine hg_istore4 d_M_act_30 rfl ?_
        refine hg_iload2 d_M_act_32 ?_
        refine hg_if_ne (tgt := 47) d_M_act_33 (by decide) (fun h_3 => absurd h_3 (by decide)) (fun h_3 => ?_)
        refine hg_aload0 d_M_act_36 ?_
        refine hg_iload1 d_M_act_37 ?_
        refine hg_iload4 d_M_act_38 ?_
        refine hg_iload3 d_M_act_40 ?_
        refine hg_cVi d_M_act_41 l_M_311 rfl rfl (hX.lt (n := 1) ⟨by decide, by decide⟩ rfl (by omega)) rfl (Nat.le_of_ble_eq_true rfl) (m_M_asks (x := z) (st := (0, (gK G).2)) hX hR hv2 hk2 (by omega) hK6 hK1 (by show 0 ≤ _; omega)) rfl ?_
        rintro _ _ ⟨I2, rfl, rfl, hK3, hf3⟩
        refine hg_goto (tgt := 71) d_M_act_44 (by decide) ?_
        refine hg_ireturn d_M_act_71 rfl rfl ?_
        show hs_MP _ (so_act G (nI h) 0 z).1 (so_act G (nI h) 0 z).2 I Lg Rf X _
        have hz : so_act G (nI h) 0 z = ((tk_A h (hs_hv (gN G) h 1) K z (0, (gK G).2)).1, gsK G (tk_A h (hs_hv (gN G) h 1) K z (0, (gK G).2)).2) := by
          unfold so_act; rw [iha, ihb]; simp only []; rw [eK, nI_clamp (by omega)]; rfl
        rw [hz]
        exact ⟨rfl, I2, Lg, rfl, hM1.K (x := (tk_A h (hs_hv (gN G) h 1) K z (0, (gK G).2)).2) (fun r hr => hf3.2.2 r hr) (fun j hj => hf3.2.1 j hj) hK3, fun k hk => (hf3.1 k (by omega) (by omega)).trans (hlo1 k hk), fun _ _ => rfl⟩
      · show hg_WP l E _ Y_M_act 0 0 24 [some (.ref (hg_ad E 21 0)), some (.int (nI h)), some (.int 1), some (.int z), none] [] (I1, Lg, Rf, X) _
        replace ihb : hs_ix 3 1 = some 1 := ihb
        refine hg_aload0 d_M_act_24 ?_
        refine hg_getR d_M_act_25 f_M_9 rfl rfl (hX.lt (n := 1) ⟨by decide, by decide⟩ rfl (by omega)) (hR.m (j := 1) (q := (22, 0)) rfl) ?_
        refine hg_iload1 d_M_act_28 ?_
        refine hg_iald_n (j := h) d_M_act_29 rfl rfl (hX.lt (n := 28) ⟨by decide, by decide⟩ rfl (by omega)) (hX.jn (n := 6) (by decide) rfl (by omega)) ?_
        refine hg_eq1 (y := hs_hv (gN G) h 0) (hM2.2.2.2.2.2.2.2.1 h 0 (by assumption) (by decide)) ?_
        obtain ⟨K, hK6, eK⟩ := (hO.2.2.2.2.1 h hh).1
        have hk2 : I1 22 0 h = nI K := (hM2.2.2.2.2.2.2.2.1 h 0 hh (by decide)).trans eK
        have hv2 : I1 22 1 h = hs_hv (gN G) h 1 := hM2.2.2.2.2.2.2.2.1 h 1 hh (by decide)
        refine hg_eq1 (y := nI K) eK ?_
        refine hg_istore4 d_M_act_30 rfl ?_
        refine hg_iload2 d_M_act_32 ?_
        refine hg_if_ne (tgt := 47) d_M_act_33 (by decide) (fun h_4 => ?_) (fun h_4 => absurd (by decide) h_4)
        refine hg_iload2 d_M_act_47 ?_
        refine hg_iconst (v := 1) d_M_act_48 (by decide) ?_
        refine hg_icmp_ne (tgt := 63) d_M_act_49 (by decide) (fun h_5 => absurd h_5 (by decide)) (fun h_5 => ?_)
        refine hg_aload0 d_M_act_52 ?_
        refine hg_iload1 d_M_act_53 ?_
        refine hg_iload4 d_M_act_54 ?_
        refine hg_iload3 d_M_act_56 ?_
        refine hg_cVi d_M_act_57 l_M_318 rfl rfl (hX.lt (n := 1) ⟨by decide, by decide⟩ rfl (by omega)) rfl (Nat.le_of_ble_eq_true rfl) (m_M_talks (x := z) (st := (0, (gK G).2)) hX hR hv2 hk2 (by omega) hK6 hK1 (by show 0 ≤ _; omega)) rfl ?_
        rintro _ _ ⟨I2, rfl, rfl, hK3, hf3⟩
        refine hg_goto (tgt := 71) d_M_act_60 (by decide) ?_
        refine hg_ireturn d_M_act_71 rfl rfl ?_
        show hs_MP _ (so_act G (nI h) 1 z).1 (so_act G (nI h) 1 z).2 I Lg Rf X _
        have hz : so_act G (nI h) 1 z = ((tk_T h (hs_hv (gN G) h 1) K K z (0, (gK G).2)).1, gsK G (tk_T h (hs_hv (gN G) h 1) K K z (0, (gK G).2)).2) := by
          unfold so_act; rw [iha, ihb]; simp only []; rw [eK, nI_clamp (by omega)]; rfl
        rw [hz]
        exact ⟨rfl, I2, Lg, rfl, hM1.K (x := (tk_T h (hs_hv (gN G) h 1) K K z (0, (gK G).2)).2) (fun r hr => hf3.2.2 r hr) (fun j hj => hf3.2.1 j hj) hK3, fun k hk => (hf3.1 k (by omega) (by omega)).trans (hlo1 k hk), fun _ _ => rfl⟩
      · show hg_WP l E _ Y_M_act 0 0 24 [some (.ref (hg_ad E 21 0)), some (.int (nI h)), some (.int 2), some (.int z), none] [] (I1, Lg, Rf, X) _
        replace ihb : hs_ix 3 2 = some 2 := ihb
        refine hg_aload0 d_M_act_24 ?_
        refine hg_getR d_M_act_25 f_M_9 rfl rfl (hX.lt (n := 1) ⟨by decide, by decide⟩ rfl (by omega)) (hR.m (j := 1) (q := (22, 0)) rfl) ?_
        refine hg_iload1 d_M_act_28 ?_
        refine hg_iald_n (j := h) d_M_act_29 rfl rfl (hX.lt (n := 28) ⟨by decide, by decide⟩ rfl (by omega)) (hX.jn (n := 6) (by decide) rfl (by omega)) ?_
        refine hg_eq1 (y := hs_hv (gN G) h 0) (hM2.2.2.2.2.2.2.2.1 h 0 (by assumption) (by decide)) ?_
        obtain ⟨K, hK6, eK⟩ := (hO.2.2.2.2.1 h hh).1
        have hk2 : I1 22 0 h = nI K := (hM2.2.2.2.2.2.2.2.1 h 0 hh (by decide)).trans eK
        have hv2 : I1 22 1 h = hs_hv (gN G) h 1 := hM2.2.2.2.2.2.2.2.1 h 1 hh (by decide)
        refine hg_eq1 (y := nI K) eK ?_
        refine hg_istore4 d_M_act_30 rfl ?_
        refine hg_iload2 d_M_act_32 ?_
        refine hg_if_ne (tgt := 47) d_M_act_33 (by decide) (fun h_6 => ?_) (fun h_6 => absurd (by decide) h_6)
        refine hg_iload2 d_M_act_47 ?_
        refine hg_iconst (v := 1) d_M_act_48 (by decide) ?_
        refine hg_icmp_ne (tgt := 63) d_M_act_49 (by decide) (fun h_7 => ?_) (fun h_7 => absurd (by decide) h_7)
        refine hg_aload0 d_M_act_63 ?_
        refine hg_iload1 d_M_act_64 ?_
        refine hg_iload4 d_M_act_65 ?_
        refine hg_iload3 d_M_act_67 ?_
        refine hg_cVi d_M_act_68 l_M_321 rfl rfl (hX.lt (n := 1) ⟨by decide, by decide⟩ rfl (by omega)) rfl (Nat.le_of_ble_eq_true rfl) (m_M_tells (x := z) (st := (0, (gK G).2)) hX hR hv2 hk2 (by omega) hK6 hK1 (by show 0 ≤ _; omega)) rfl ?_
        rintro _ _ ⟨I2, rfl, rfl, hK3, hf3⟩
        refine hg_ireturn d_M_act_71 rfl rfl ?_
        show hs_MP _ (so_act G (nI h) 2 z).1 (so_act G (nI h) 2 z).2 I Lg Rf X _
        have hz : so_act G (nI h) 2 z = ((tk_L h (hs_hv (gN G) h 1) K K z (0, (gK G).2)).1, gsK G (tk_L h (hs_hv (gN G) h 1) K K z (0, (gK G).2)).2) := by
          unfold so_act; rw [iha, ihb]; simp only []; rw [eK, nI_clamp (by omega)]; rfl
        rw [hz]
        exact ⟨rfl, I2, Lg, rfl, hM1.K (x := (tk_L h (hs_hv (gN G) h 1) K K z (0, (gK G).2)).2) (fun r hr => hf3.2.2 r hr) (fun j hj => hf3.2.1 j hj) hK3, fun k hk => (hf3.1 k (by omega) (by omega)).trans (hlo1 k hk), fun _ _ => rfl⟩
    · have ihb : hs_ix 3 y = none := hs_ix_n2 hhb
      refine hg_if_ne (tgt := 24) d_M_act_19 (by decide) (fun h_8 => absurd h_8 (by decide)) (fun h_8 => ?_)
      refine hg_iconst (v := 0) d_M_act_22 (by decide) ?_
      refine hg_ireturn d_M_act_23 rfl rfl ?_
      have hz : so_act G (nI h) y z = (0, gsK G (0, (gK G).2)) := by simp [so_act, iha, ihb]
      rw [hz]
      exact ⟨rfl, I1, Lg, rfl, hM1, hlo1, fun _ _ => rfl⟩
  · have iha : hs_ix (hs_n (gN G)) x = none := hs_ix_n hha
    refine hg_if_eq (tgt := 22) d_M_act_10 (by decide) (fun h_9 => ?_) (fun h_9 => absurd (by decide) h_9)
    refine hg_iconst (v := 0) d_M_act_22 (by decide) ?_
    refine hg_ireturn d_M_act_23 rfl rfl ?_
    have hz : so_act G x y z = (0, gsK G (0, (gK G).2)) := by simp [so_act, iha]
    rw [hz]
    exact ⟨rfl, I1, Lg, rfl, hM1, hlo1, fun _ _ => rfl⟩

end M44b
