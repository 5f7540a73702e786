/-! the model: a THURSDAY -/
theorem hg_WP_imp {l : Launch} {E : hg_E} {d : Nat} {Y : hg_Y} {mc ms pc : Nat} {loc : List (Option Value)} {st : List Value} {M : hg_M} {Q Q2 : Option Value → hg_M → Prop} (h : hg_WP l E d Y mc ms pc loc st M Q) (q : ∀ r M2, Q r M2 → Q2 r M2) : hg_WP l E d Y mc ms pc loc st M Q2 := by
  intro p e R s m args below meth c H locs cells slots Z ls hF hK hR hP hS hL hz hret
  exact h p e R s m args below meth c H locs cells slots Z ls hF hK hR hP hS hL hz (fun pc ls H locs a b r M2 hq => hret pc ls H locs a b r M2 (q r M2 hq))
section M31
variable {l : Launch} {E : hg_E} {d T : Nat}
variable {I : Nat → Nat → Nat → Int32} {Lg : Nat → Nat → Nat → Int64} {Rf : Nat → Nat → Nat → Option (Nat × Nat)} {X : Nat × (Nat → Nat) × (Nat → Nat → Nat)}
variable {σ τ : hs_S} {tw : hs_W} {I' I1 : Nat → Nat → Nat → Int32}
/-- what a THURSDAY changes: the numbers of the street, of its HOUSES; the stack -/
def hm_t (I' I : Nat → Nat → Nat → Int32) : Prop := (∀ q, q ≠ 21 → q ≠ 22 → q ≠ 24 → I' q = I q) ∧ (∀ j, ¬ (10 ≤ j ∧ j ≤ 13) → I' 21 0 j = I 21 0 j) ∧ ∀ r, 8 ≤ r → I' 22 r = I 22 r
theorem hm_t.rf : hm_t I I := ⟨fun _ _ _ _ => rfl, fun _ _ => rfl, fun _ _ => rfl⟩
theorem hm_t.tr (h : hm_t I' I1) (h2 : hm_t I1 I) : hm_t I' I := ⟨fun q a b c => (h.1 q a b c).trans (h2.1 q a b c), fun j a => (h.2.1 j a).trans (h2.2.1 j a), fun j a => (h.2.2 j a).trans (h2.2.2 j a)⟩
theorem hm_e.t (h : hm_e I' I) : hm_t I' I := ⟨fun q _ _ c => h q c, fun j _ => by rw [h 21 (by decide)], fun j _ => by rw [h 22 (by decide)]⟩
theorem hm_t.u21 (h : hm_t I' I) {j : Nat} {x : Int32} (hj : 10 ≤ j ∧ j ≤ 13) : hm_t (hg_u3 I' 21 0 j x) I := ⟨fun q a b c => by rw [← h.1 q a b c]; funext y z; exact hg_u3k (fun v => a v.1), fun k hk => by rw [← h.2.1 k hk]; unfold hg_u3; rw [if_neg (fun v => hk (by rw [v.2.2]; exact hj))], fun r hr => by rw [← h.2.2 r hr]; funext z; exact hg_u3k (by omega)⟩
theorem hm_t.u22 (h : hm_t I' I) {r j : Nat} {x : Int32} (hr : r < 8) : hm_t (hg_u3 I' 22 r j x) I := ⟨fun q a b c => by rw [← h.1 q a b c]; funext y z; exact hg_u3k (fun v => b v.1), fun k hk => by rw [← h.2.1 k hk]; exact hg_u3k (by omega), fun r2 hr2 => by rw [← h.2.2 r2 hr2]; funext z; exact hg_u3k (by omega)⟩
theorem hs_MT.t {T : Nat} (h : hs_MT T tw I) (e : hm_t I' I) : hs_MT T tw I' := by
  unfold hs_MT hs_Mt at h ⊢; rw [e.2.1 28 (by omega), e.2.2 10 (by omega), e.2.2 11 (by omega), e.2.2 12 (by omega), e.2.2 13 (by omega), e.2.2 14 (by omega), e.2.2 15 (by omega)]; exact h
theorem hg_pl_succ {n p i : Nat} (hp : p < n) (hi : i < n) : (hg_pl n p i + 1) % n = hg_pl n p (i + 1) := by
  unfold hg_pl; split
  · split
    · exact Nat.mod_eq_of_lt (by omega)
    · rw [show p + i + 1 = n by omega, Nat.mod_self]; omega
  · rw [if_neg (by omega), Nat.mod_eq_of_lt (by omega)]; omega
theorem hg_pl_0 {n p : Nat} (hp : p < n) : hg_pl n p 0 = p := by unfold hg_pl; rw [if_pos (by omega)]; rfl
theorem m_M_hasx {x i : Int32} : hg_MC l E (d + 1) Y_M_has 0 0 [.int x, .int i] (I, Lg, Rf, X) (hg_i (hg_bo (¬ (x >>> (i &&& 31)) &&& 1 = 0) (I, Lg, Rf, X))) := by
  refine hg_mc k_M_has (Nat.le_of_ble_eq_true rfl) ?_
  show hg_WP l E _ Y_M_has 0 0 0 [some (.int x), some (.int i)] [] (I, Lg, Rf, X) _
  refine hg_iload0 d_M_has_0 ?_
  refine hg_iload1 d_M_has_1 ?_
  refine hg_ishr d_M_has_2 ?_
  refine hg_iconst (v := 1) d_M_has_3 (by decide) ?_
  refine hg_iand d_M_has_4 ?_
  refine hg_iconst (v := 1) d_M_has_5 (by decide) ?_
  refine hg_icmp_ne (tgt := 13) d_M_has_6 (by decide) (fun h1 => ?_) (fun h1 => ?_)
  · refine hg_iconst (v := 0) d_M_has_13 (by decide) ?_
    refine hg_ireturn d_M_has_14 rfl (by decide) ?_
    refine ⟨Or.inr ⟨fun z => z ?_, rfl⟩, rfl⟩
    obtain ⟨j, hj, ej⟩ := pk_andE (x >>> (i &&& 31)) (m := 1) 1 rfl
    rw [ej] at h1 ⊢
    have hj1 : j = 0 ∨ j = 1 := by omega
    rcases hj1 with rfl | rfl
    · rfl
    · exact absurd rfl h1
  · replace h1 := Decidable.not_not.mp h1
    refine hg_iconst (v := 1) d_M_has_9 (by decide) ?_
    refine hg_goto (tgt := 14) d_M_has_10 (by decide) ?_
    refine hg_ireturn d_M_has_14 rfl (by decide) ?_
    exact ⟨Or.inl ⟨fun z => absurd (h1.symm.trans z) (by decide), rfl⟩, rfl⟩

theorem m_M_goes3 {h pl : Nat} (hX : hg_XS T X) (hR : hg_SR T Rf) (hM : hs_MS τ I) (hn6 : hs_n τ ≤ 6) (hh : h < hs_n τ) (hpl : pl < hs_n τ) : hg_WP l E (d) Y_M_goesThursday 0 0 133 [some (.ref (hg_ad E 21 0)), some (.int (nI pl)), some (.int (nI h))] [] (I, Lg, Rf, X) (hg_v (fun M' => ∃ I' : Nat → Nat → Nat → Int32, M' = (I', Lg, Rf, X) ∧ hs_MS (hs_wk1 (hs_din3 τ h pl)) I' ∧ hm_t I' I)) := by
  refine hg_aload0 d_M_goesThursday_133 ?_
  refine hg_getR d_M_goesThursday_134 f_M_21 rfl rfl (hX.lt (n := 1) ⟨by decide, by decide⟩ rfl (by omega)) (hR.m (j := 4) (q := (22, 3)) rfl) ?_
  refine hg_iload2 d_M_goesThursday_137 ?_
  refine hg_iald_n (j := h) d_M_goesThursday_138 rfl rfl (hX.lt (n := 28) ⟨by decide, by decide⟩ rfl (by omega)) (hX.jn (n := 6) (by decide) rfl (by omega)) ?_
  refine hg_eq1 (y := hs_hv τ h 3) (hM.2.2.2.2.2.2.2.1 h 3 hh (by decide)) ?_
  refine hg_if_le (tgt := 160) d_M_goesThursday_139 (by decide) (fun h3 => ?_) (fun h3 => ?_)
  · refine hg_aload0 d_M_goesThursday_160 ?_
    refine hg_iload1 d_M_goesThursday_161 ?_
    refine hg_iconst (v := 1) d_M_goesThursday_162 (by decide) ?_
    refine hg_iadd d_M_goesThursday_163 ?_
    refine hg_eq1 (y := nI (pl + 1)) (nI_add _ _) ?_
    refine hg_aload0 d_M_goesThursday_164 ?_
    refine hg_getI d_M_goesThursday_165 f_M_108 rfl rfl (hX.lt (n := 1) ⟨by decide, by decide⟩ rfl (by omega)) ?_
    refine hg_eq1 (y := nI (hs_n τ)) (hM.1) ?_
    refine hg_irem d_M_goesThursday_168 (nI_ne0 (by omega) (by omega)) ?_
    refine hg_eq1 (y := nI (if pl + 1 < hs_n τ then pl + 1 else 0)) ((pk_rem (d := hs_n τ) (by omega) (by omega) (by omega)).trans (congrArg nI (by split; exact Nat.mod_eq_of_lt (by assumption); rw [show pl + 1 = hs_n τ by omega, Nat.mod_self]))) ?_
    refine hg_putI d_M_goesThursday_169 f_M_236 rfl rfl (Or.inl rfl) rfl rfl (hX.lt (n := 1) ⟨by decide, by decide⟩ rfl (by omega)) ?_
    refine hg_aload0 d_M_goesThursday_172 ?_
    refine hg_dup d_M_goesThursday_173 rfl ?_
    refine hg_getI d_M_goesThursday_174 f_M_214 rfl rfl (hX.lt (n := 1) ⟨by decide, by decide⟩ rfl (by omega)) ?_
    refine hg_eq1 (y := I 21 0 13) (by simp [hg_u3]) ?_
    refine hg_eq1 (y := nI (hs_wk τ)) (hM.2.2.2.2.1) ?_
    refine hg_iconst (v := 1) d_M_goesThursday_177 (by decide) ?_
    refine hg_iadd d_M_goesThursday_178 ?_
    refine hg_eq1 (y := nI ((hs_wk τ) + 1)) (nI_add _ _) ?_
    refine hg_putI d_M_goesThursday_179 f_M_214 rfl rfl (Or.inl rfl) rfl rfl (hX.lt (n := 1) ⟨by decide, by decide⟩ rfl (by omega)) ?_
    refine hg_return d_M_goesThursday_182 rfl ?_
    unfold hs_din3; rw [if_neg (Int32.not_lt.mpr h3)]
    exact ⟨_, rfl, (hM.ssc (c := 1) (by decide) (by decide)).ssc (c := 4) (by decide) (by decide), (hm_t.rf.u21 (by decide)).u21 (by decide)⟩
  · refine hg_aload0 d_M_goesThursday_142 ?_
    refine hg_getR d_M_goesThursday_143 f_M_21 rfl rfl (hX.lt (n := 1) ⟨by decide, by decide⟩ rfl (by omega)) (hR.m (j := 4) (q := (22, 3)) rfl) ?_
    refine hg_iload2 d_M_goesThursday_146 ?_
    refine hg_dup2 d_M_goesThursday_147 rfl rfl ?_
    refine hg_iald_n (j := h) d_M_goesThursday_148 rfl rfl (hX.lt (n := 28) ⟨by decide, by decide⟩ rfl (by omega)) (hX.jn (n := 6) (by decide) rfl (by omega)) ?_
    refine hg_eq1 (y := hs_hv τ h 3) (hM.2.2.2.2.2.2.2.1 h 3 hh (by decide)) ?_
    refine hg_iconst (v := 1) d_M_goesThursday_149 (by decide) ?_
    refine hg_isub d_M_goesThursday_150 ?_
    refine hg_iast_n (j := h) d_M_goesThursday_151 rfl rfl (hX.lt (n := 28) ⟨by decide, by decide⟩ rfl (by omega)) (hX.jn (n := 6) (by decide) rfl (by omega)) ?_
    refine hg_aload0 d_M_goesThursday_152 ?_
    refine hg_iload1 d_M_goesThursday_153 ?_
    refine hg_putI d_M_goesThursday_154 f_M_236 rfl rfl (Or.inl rfl) rfl rfl (hX.lt (n := 1) ⟨by decide, by decide⟩ rfl (by omega)) ?_
    refine hg_goto (tgt := 172) d_M_goesThursday_157 (by decide) ?_
    refine hg_aload0 d_M_goesThursday_172 ?_
    refine hg_dup d_M_goesThursday_173 rfl ?_
    refine hg_getI d_M_goesThursday_174 f_M_214 rfl rfl (hX.lt (n := 1) ⟨by decide, by decide⟩ rfl (by omega)) ?_
    refine hg_eq1 (y := I 21 0 13) (by simp [hg_u3]) ?_
    refine hg_eq1 (y := nI (hs_wk τ)) (hM.2.2.2.2.1) ?_
    refine hg_iconst (v := 1) d_M_goesThursday_177 (by decide) ?_
    refine hg_iadd d_M_goesThursday_178 ?_
    refine hg_eq1 (y := nI ((hs_wk τ) + 1)) (nI_add _ _) ?_
    refine hg_putI d_M_goesThursday_179 f_M_214 rfl rfl (Or.inl rfl) rfl rfl (hX.lt (n := 1) ⟨by decide, by decide⟩ rfl (by omega)) ?_
    refine hg_return d_M_goesThursday_182 rfl ?_
    unfold hs_din3; rw [if_pos (Int32.not_le.mp h3)]
    exact ⟨_, rfl, ((hM.shv (p := h) (f := 3) (by decide)).ssc (c := 1) (by decide) (by decide)).ssc (c := 4) (by decide) (by decide), ((hm_t.rf.u22 (by decide)).u21 (by decide)).u21 (by decide)⟩
theorem m_M_goes2 {h pl : Nat} (hX : hg_XS T X) (hR : hg_SR T Rf) (hM : hs_MS τ I) (hn6 : hs_n τ ≤ 6) (hh : h < hs_n τ) (hpl : pl < hs_n τ) (hw : hs_wk τ ≤ 99999) : hg_WP l E (d + 1) Y_M_goesThursday 0 0 104 [some (.ref (hg_ad E 21 0)), some (.int (nI pl)), some (.int (nI h))] [] (I, Lg, Rf, X) (hg_v (fun M' => ∃ I' : Nat → Nat → Nat → Int32, M' = (I', Lg, Rf, X) ∧ hs_MS (hs_wk1 (hs_din3 (hs_din2 τ h) h pl)) I' ∧ hm_t I' I)) := by
  refine hg_aload0 d_M_goesThursday_104 ?_
  refine hg_getR d_M_goesThursday_105 f_M_27 rfl rfl (hX.lt (n := 1) ⟨by decide, by decide⟩ rfl (by omega)) (hR.m (j := 6) (q := (22, 5)) rfl) ?_
  refine hg_iload2 d_M_goesThursday_108 ?_
  refine hg_iald_n (j := h) d_M_goesThursday_109 rfl rfl (hX.lt (n := 28) ⟨by decide, by decide⟩ rfl (by omega)) (hX.jn (n := 6) (by decide) rfl (by omega)) ?_
  refine hg_eq1 (y := hs_hv τ h 5) (hM.2.2.2.2.2.2.2.1 h 5 hh (by decide)) ?_
  refine hg_aload0 d_M_goesThursday_110 ?_
  refine hg_getI d_M_goesThursday_111 f_M_214 rfl rfl (hX.lt (n := 1) ⟨by decide, by decide⟩ rfl (by omega)) ?_
  refine hg_eq1 (y := nI (hs_wk τ)) (hM.2.2.2.2.1) ?_
  refine hg_bipush (v := 8) d_M_goesThursday_114 (by decide) ?_
  refine hg_irem d_M_goesThursday_116 (by decide) ?_
  refine hg_eq1 (y := nI (hs_wk τ % 8)) (pk_rem (d := 8) (by omega) (by decide) (by decide)) ?_
  refine hg_cSi d_M_goesThursday_117 l_M_239 rfl (Nat.le_of_ble_eq_true rfl) (m_M_hasx) rfl ?_
  rintro _ _ ⟨⟨hb, rfl⟩ | ⟨hb, rfl⟩, rfl⟩
  · refine hg_if_eq (tgt := 133) d_M_goesThursday_120 (by decide) (fun h_1 => absurd h_1 (by decide)) (fun h_1 => ?_)
    refine hg_aload0 d_M_goesThursday_123 ?_
    refine hg_dup d_M_goesThursday_124 rfl ?_
    refine hg_getI d_M_goesThursday_125 f_M_251 rfl rfl (hX.lt (n := 1) ⟨by decide, by decide⟩ rfl (by omega)) ?_
    refine hg_eq1 (y := nI (hs_cl τ)) (hM.2.2.2.1) ?_
    refine hg_iconst (v := 1) d_M_goesThursday_128 (by decide) ?_
    refine hg_iadd d_M_goesThursday_129 ?_
    refine hg_eq1 (y := nI ((hs_cl τ) + 1)) (nI_add _ _) ?_
    refine hg_putI d_M_goesThursday_130 f_M_251 rfl rfl (Or.inl rfl) rfl rfl (hX.lt (n := 1) ⟨by decide, by decide⟩ rfl (by omega)) ?_
    have h2 := hM.ssc (c := 3) (v := hs_cl τ + 1) (by decide) (by decide)
    unfold hs_din2; rw [if_neg hb]
    refine hg_WP_imp (m_M_goes3 hX hR h2 hn6 hh hpl) ?_
    rintro _ _ ⟨rfl, I', e, a, b⟩; exact ⟨rfl, I', e, a, b.tr (hm_t.rf.u21 (by decide))⟩
  · refine hg_if_eq (tgt := 133) d_M_goesThursday_120 (by decide) (fun h_2 => ?_) (fun h_2 => absurd (by decide) h_2)
    unfold hs_din2; rw [if_pos (Decidable.not_not.mp hb)]
    exact m_M_goes3 hX hR hM hn6 hh hpl
theorem m_M_goes1 {i : Nat} (hX : hg_XS T X) (hR : hg_SR T Rf) (hO : hs_ok T σ) (hw : hs_wk σ ≤ 99999) (hi : i < hs_n σ) : ∀ (k j : Nat) (I1 : Nat → Nat → Nat → Int32), j + k = i → hs_MS (hs_sw σ (hs_ow σ j)) I1 → hm_t I1 I → hg_WP l E (d + 1) Y_M_goesThursday 0 0 41 [some (.ref (hg_ad E 21 0)), some (.int (nI (hs_pl σ i))), some (.int (nI (hs_pl σ j)))] [] (I1, Lg, Rf, X) (hg_v (fun M' => ∃ I' : Nat → Nat → Nat → Int32, M' = (I', Lg, Rf, X) ∧ hs_MS (hs_wk1 (hs_din σ i)) I' ∧ hm_t I' I)) := by
  have hn6 := hO.1
  have hpp : hs_p σ < hs_n σ := by have := hO.2.1; omega
  have hpli : hs_pl σ i < hs_n σ := hg_pl_lt hpp (by omega)
  have hsi := hO.2.2.1 _ hpli
  intro k
  induction k with
  | zero =>
    intro j I1 hjk hM ht
    obtain rfl : j = i := by omega
    refine hg_iload2 d_M_goesThursday_41 ?_
    refine hg_iload1 d_M_goesThursday_42 ?_
    refine hg_icmp_eq (tgt := 87) d_M_goesThursday_43 (by decide) (fun h_1 => ?_) (fun h_1 => absurd (rfl) h_1)
    refine hg_aload0 d_M_goesThursday_87 ?_
    refine hg_getR d_M_goesThursday_88 f_M_36 rfl rfl (hX.lt (n := 1) ⟨by decide, by decide⟩ rfl (by omega)) (hR.m (j := 9) (q := (22, 8)) rfl) ?_
    refine hg_iload1 d_M_goesThursday_91 ?_
    refine hg_iald_n (j := (hs_pl σ j)) d_M_goesThursday_92 rfl rfl (hX.lt (n := 28) ⟨by decide, by decide⟩ rfl (by omega)) (hX.jn (n := 6) (by decide) rfl (by omega)) ?_
    refine hg_eq1 (y := nI (hs_st σ (hs_pl σ j))) (hM.2.2.2.2.2.2.1 _ (by assumption)) ?_
    refine hg_istore2 d_M_goesThursday_93 rfl ?_
    refine hg_aload0 d_M_goesThursday_94 ?_
    refine hg_getR d_M_goesThursday_95 f_M_24 rfl rfl (hX.lt (n := 1) ⟨by decide, by decide⟩ rfl (by omega)) (hR.m (j := 5) (q := (22, 4)) rfl) ?_
    refine hg_iload2 d_M_goesThursday_98 ?_
    refine hg_dup2 d_M_goesThursday_99 rfl rfl ?_
    refine hg_iald_n (j := (hs_st σ (hs_pl σ j))) d_M_goesThursday_100 rfl rfl (hX.lt (n := 28) ⟨by decide, by decide⟩ rfl (by omega)) (hX.jn (n := 6) (by decide) rfl (by omega)) ?_
    refine hg_eq1 (y := hs_ow σ j (hs_st σ (hs_pl σ j)) 4) (hM.2.2.2.2.2.2.2.1 _ 4 (by assumption) (by decide)) ?_
    refine hg_iconst (v := 1) d_M_goesThursday_101 (by decide) ?_
    refine hg_iadd d_M_goesThursday_102 ?_
    refine hg_iast_n (j := (hs_st σ (hs_pl σ j))) d_M_goesThursday_103 rfl rfl (hX.lt (n := 28) ⟨by decide, by decide⟩ rfl (by omega)) (hX.jn (n := 6) (by decide) rfl (by omega)) ?_
    have h1 := hM.shv (p := hs_st σ (hs_pl σ j)) (f := 4) (x := hs_ow σ j (hs_st σ (hs_pl σ j)) 4 + 1) (by decide)
    refine hg_WP_imp (m_M_goes2 (τ := hs_din1 σ j) hX hR h1 hn6 hsi hpli hw) ?_
    rintro _ _ ⟨rfl, I', e, a, b⟩; exact ⟨rfl, I', e, a, b.tr (ht.u22 (by decide))⟩
  | succ k ih =>
    intro j I1 hjk hM ht
    have hplj : hs_pl σ j < hs_n σ := hg_pl_lt hpp (by omega)
    have hsj := hO.2.2.1 _ hplj
    refine hg_iload2 d_M_goesThursday_41 ?_
    refine hg_iload1 d_M_goesThursday_42 ?_
    refine hg_icmp_eq (tgt := 87) d_M_goesThursday_43 (by decide) (fun h_2 => absurd h_2 (fun z => by have := hg_pl_inj (i := j) (j := i) hpp (show j < hs_n σ by omega) hi ((nI_eq (show hs_pl σ j < 2 ^ 31 by omega) (show hs_pl σ i < 2 ^ 31 by omega)).mp z); omega)) (fun h_2 => ?_)
    refine hg_aload0 d_M_goesThursday_46 ?_
    refine hg_getR d_M_goesThursday_47 f_M_21 rfl rfl (hX.lt (n := 1) ⟨by decide, by decide⟩ rfl (by omega)) (hR.m (j := 4) (q := (22, 3)) rfl) ?_
    refine hg_aload0 d_M_goesThursday_50 ?_
    refine hg_getR d_M_goesThursday_51 f_M_36 rfl rfl (hX.lt (n := 1) ⟨by decide, by decide⟩ rfl (by omega)) (hR.m (j := 9) (q := (22, 8)) rfl) ?_
    refine hg_iload2 d_M_goesThursday_54 ?_
    refine hg_iald_n (j := (hs_pl σ j)) d_M_goesThursday_55 rfl rfl (hX.lt (n := 28) ⟨by decide, by decide⟩ rfl (by omega)) (hX.jn (n := 6) (by decide) rfl (by omega)) ?_
    refine hg_eq1 (y := nI (hs_st σ (hs_pl σ j))) (hM.2.2.2.2.2.2.1 _ (by assumption)) ?_
    refine hg_bipush (v := 9) d_M_goesThursday_56 (by decide) ?_
    refine hg_aload0 d_M_goesThursday_58 ?_
    refine hg_getR d_M_goesThursday_59 f_M_21 rfl rfl (hX.lt (n := 1) ⟨by decide, by decide⟩ rfl (by omega)) (hR.m (j := 4) (q := (22, 3)) rfl) ?_
    refine hg_aload0 d_M_goesThursday_62 ?_
    refine hg_getR d_M_goesThursday_63 f_M_36 rfl rfl (hX.lt (n := 1) ⟨by decide, by decide⟩ rfl (by omega)) (hR.m (j := 9) (q := (22, 8)) rfl) ?_
    refine hg_iload2 d_M_goesThursday_66 ?_
    refine hg_iald_n (j := (hs_pl σ j)) d_M_goesThursday_67 rfl rfl (hX.lt (n := 28) ⟨by decide, by decide⟩ rfl (by omega)) (hX.jn (n := 6) (by decide) rfl (by omega)) ?_
    refine hg_eq1 (y := nI (hs_st σ (hs_pl σ j))) (hM.2.2.2.2.2.2.1 _ (by assumption)) ?_
    refine hg_iald_n (j := (hs_st σ (hs_pl σ j))) d_M_goesThursday_68 rfl rfl (hX.lt (n := 28) ⟨by decide, by decide⟩ rfl (by omega)) (hX.jn (n := 6) (by decide) rfl (by omega)) ?_
    refine hg_eq1 (y := hs_ow σ j (hs_st σ (hs_pl σ j)) 3) (hM.2.2.2.2.2.2.2.1 _ 3 (by assumption) (by decide)) ?_
    refine hg_iconst (v := 1) d_M_goesThursday_69 (by decide) ?_
    refine hg_iadd d_M_goesThursday_70 ?_
    refine hg_min d_M_goesThursday_71 l_M_228 (Nat.le_of_ble_eq_true rfl) ?_
    refine hg_iast_n (j := (hs_st σ (hs_pl σ j))) d_M_goesThursday_74 rfl rfl (hX.lt (n := 28) ⟨by decide, by decide⟩ rfl (by omega)) (hX.jn (n := 6) (by decide) rfl (by omega)) ?_
    refine hg_iload2 d_M_goesThursday_75 ?_
    refine hg_iconst (v := 1) d_M_goesThursday_76 (by decide) ?_
    refine hg_iadd d_M_goesThursday_77 ?_
    refine hg_eq1 (y := nI ((hs_pl σ j) + 1)) (nI_add _ _) ?_
    refine hg_aload0 d_M_goesThursday_78 ?_
    refine hg_getI d_M_goesThursday_79 f_M_108 rfl rfl (hX.lt (n := 1) ⟨by decide, by decide⟩ rfl (by omega)) ?_
    refine hg_eq1 (y := I1 21 0 0) (by simp [hg_u3]) ?_
    refine hg_eq1 (y := nI (hs_n σ)) (hM.1) ?_
    refine hg_irem d_M_goesThursday_82 (nI_ne0 (by omega) (by omega)) ?_
    refine hg_eq1 (y := nI (hs_pl σ (j + 1))) ((pk_rem (d := hs_n σ) (by omega) (by omega) (by omega)).trans (congrArg nI (hg_pl_succ hpp (by omega)))) ?_
    refine hg_istore2 d_M_goesThursday_83 rfl ?_
    refine hg_goto (tgt := 41) d_M_goesThursday_84 (by decide) ?_
    exact ih (j + 1) _ (by omega) (hM.shv (f := 3) (by decide)) (ht.u22 (by decide))
theorem m_M_goesThursday (hX : hg_XS T X) (hR : hg_SR T Rf) (hM : hs_MS σ I) (hO : hs_ok T σ) (hT : hs_MT T tw I) (hw : hs_wk σ ≤ 99999) : hg_MC l E (d + 7) Y_M_goesThursday 0 0 [.ref (hg_ad E 21 0)] (I, Lg, Rf, X) (hg_v (fun M' => ∃ I' : Nat → Nat → Nat → Int32, M' = (I', Lg, Rf, X) ∧ hs_MS (hs_thu tw σ) I' ∧ hm_t I' I)) := by
  have hn6 := hO.1
  refine hg_mc k_M_goesThursday (Nat.le_of_ble_eq_true rfl) ?_
  show hg_WP l E _ Y_M_goesThursday 0 0 0 [some (.ref (hg_ad E 21 0)), none, none] [] (I, Lg, Rf, X) _
  refine hg_aload0 d_M_goesThursday_0 ?_
  refine hg_aload0 d_M_goesThursday_1 ?_
  refine hg_cVi d_M_goesThursday_2 l_M_242 rfl rfl (hX.lt (n := 1) ⟨by decide, by decide⟩ rfl (by omega)) rfl (Nat.le_of_ble_eq_true rfl) (m_M_ills hX hR hM hO hT hw) rfl ?_
  rintro _ _ ⟨rfl, I2, rfl, hq2⟩
  have hM2 := hM.e hq2
  refine hg_cVi d_M_goesThursday_5 l_M_245 rfl rfl (hX.lt (n := 1) ⟨by decide, by decide⟩ rfl (by omega)) rfl (Nat.le_of_ble_eq_true rfl) (m_M_placeBy (tw := tw) hX hR (hM.e hq2) hO) rfl ?_
  rintro _ _ ⟨rfl, rfl⟩
  rcases ei : hs_hp tw σ with _ | i
  · show hg_WP l E _ Y_M_goesThursday 0 0 8 [some (.ref (hg_ad E 21 0)), none, none] [.int (-5)] (I2, Lg, Rf, X) _
    refine hg_istore1 d_M_goesThursday_8 rfl ?_
    refine hg_iload1 d_M_goesThursday_9 ?_
    refine hg_bipush (v := (-5)) d_M_goesThursday_10 (by decide) ?_
    refine hg_icmp_ne (tgt := 36) d_M_goesThursday_12 (by decide) (fun h_1 => absurd h_1 (by decide)) (fun h_1 => ?_)
    refine hg_aload0 d_M_goesThursday_15 ?_
    refine hg_dup d_M_goesThursday_16 rfl ?_
    refine hg_getI d_M_goesThursday_17 f_M_248 rfl rfl (hX.lt (n := 1) ⟨by decide, by decide⟩ rfl (by omega)) ?_
    refine hg_eq1 (y := nI (hs_hu σ)) (hM2.2.2.1) ?_
    refine hg_iconst (v := 1) d_M_goesThursday_20 (by decide) ?_
    refine hg_iadd d_M_goesThursday_21 ?_
    refine hg_eq1 (y := nI ((hs_hu σ) + 1)) (nI_add _ _) ?_
    refine hg_putI d_M_goesThursday_22 f_M_248 rfl rfl (Or.inl rfl) rfl rfl (hX.lt (n := 1) ⟨by decide, by decide⟩ rfl (by omega)) ?_
    refine hg_aload0 d_M_goesThursday_25 ?_
    refine hg_dup d_M_goesThursday_26 rfl ?_
    refine hg_getI d_M_goesThursday_27 f_M_214 rfl rfl (hX.lt (n := 1) ⟨by decide, by decide⟩ rfl (by omega)) ?_
    refine hg_eq1 (y := I2 21 0 13) (by simp [hg_u3]) ?_
    refine hg_eq1 (y := nI (hs_wk σ)) (hM2.2.2.2.2.1) ?_
    refine hg_iconst (v := 1) d_M_goesThursday_30 (by decide) ?_
    refine hg_iadd d_M_goesThursday_31 ?_
    refine hg_eq1 (y := nI ((hs_wk σ) + 1)) (nI_add _ _) ?_
    refine hg_putI d_M_goesThursday_32 f_M_214 rfl rfl (Or.inl rfl) rfl rfl (hX.lt (n := 1) ⟨by decide, by decide⟩ rfl (by omega)) ?_
    refine hg_return d_M_goesThursday_35 rfl ?_
    unfold hs_thu; rw [ei]
    exact ⟨_, rfl, (hM2.ssc (c := 2) (by decide) (by decide)).ssc (c := 4) (by decide) (by decide), (hq2.t.u21 (by decide)).u21 (by decide)⟩
  · show hg_WP l E _ Y_M_goesThursday 0 0 8 [some (.ref (hg_ad E 21 0)), none, none] [.int (nI (hs_pl σ i))] (I2, Lg, Rf, X) _
    have hi := hs_hp_lt ei
    have hpp : hs_p σ < hs_n σ := by have := hO.2.1; omega
    have hpl : hs_pl σ i < hs_n σ := hg_pl_lt hpp (by omega)
    refine hg_istore1 d_M_goesThursday_8 rfl ?_
    refine hg_iload1 d_M_goesThursday_9 ?_
    refine hg_bipush (v := (-5)) d_M_goesThursday_10 (by decide) ?_
    refine hg_icmp_ne (tgt := 36) d_M_goesThursday_12 (by decide) (fun h_2 => ?_) (fun h_2 => absurd (fun z => absurd z (by rw [show (-5 : Int32) = -nI 5 from rfl]; intro z; have := congrArg Int32.toInt z; rw [nI_toInt (by omega)] at this; exact absurd this (by rw [show (-nI 5 : Int32).toInt = -5 by decide]; omega))) h_2)
    refine hg_aload0 d_M_goesThursday_36 ?_
    refine hg_getI d_M_goesThursday_37 f_M_236 rfl rfl (hX.lt (n := 1) ⟨by decide, by decide⟩ rfl (by omega)) ?_
    refine hg_eq1 (y := nI (hs_p σ)) (hM2.2.1) ?_
    refine hg_istore2 d_M_goesThursday_40 rfl ?_
    unfold hs_thu; rw [ei]
    rw [← hg_pl_0 (show hs_p σ < hs_n σ from hpp)]
    refine hg_WP_imp (m_M_goes1 (d := d + 5) hX hR hO hw hi i 0 I2 (by omega) hM2 hq2.t) ?_
    exact fun _ _ h => h

end M31
