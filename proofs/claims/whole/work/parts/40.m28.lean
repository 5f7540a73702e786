/-! the model: a CLAUSE's codes run -/
def me_A : List Bool → (Nat → Int32) → Prop
  | [], _ => True
  | b :: t, A => A t.length = (if b = true then 1 else 0) ∧ me_A t A
theorem me_A.u {A A' : Nat → Int32} : ∀ {s : List Bool}, me_A s A → (∀ i, i < s.length → A' i = A i) → me_A s A'
  | [], _, _ => trivial
  | b :: t, h, e => ⟨(e t.length (by simp)).trans h.1, me_A.u h.2 (fun i hi => e i (by simp; omega))⟩
section M28
variable {l : Launch} {E : hg_E} {d T : Nat}
variable {I : Nat → Nat → Nat → Int32} {Lg : Nat → Nat → Nat → Int64} {Rf : Nat → Nat → Nat → Option (Nat × Nat)} {X : Nat × (Nat → Nat) × (Nat → Nat → Nat)}
variable {σ : hs_S}
theorem m_M_isTrue_loop {p cl w k : Nat} {den : (Nat → Int32) → Bool} (hX : hg_XS T X) (hR : hg_SR T Rf) (hM : hs_MS σ I) (hO : hs_ok T σ) (hp : p < hs_n σ) (hcl : cl < 61) (hb : I 22 13 cl = nI w) (hl : I 22 14 cl = nI k) (hwk : w + k ≤ 800) (hk : k ≤ 100) (hE : ps_me (I 22 15) w k den) : ∀ (r i : Nat) (s : List Bool) (a5 a6 a7 a8 : Option Value) (I1 : Nat → Nat → Nat → Int32), i + r = w + k → w ≤ i → s.length + r ≤ 105 → me_dep (I 22 15) i r s.length = some 1 → me_ev (I 22 15) (hs_f σ p) s i r = [den (hs_N (hs_f σ p))] → me_A s (I1 24 0) → (∀ q, q ≠ 24 → I1 q = I q) → hg_WP l E (d + 1) Y_M_isTrue 0 0 10 [some (.ref (hg_ad E 21 0)), some (.int (nI p)), some (.int (nI cl)), some (.int (nI s.length)), some (.int (nI i)), a5, a6, a7, a8] [] (I1, Lg, Rf, X) (hg_i (fun v M' => ∃ I' : Nat → Nat → Nat → Int32, v = (if den (hs_N (hs_f σ p)) = true then 1 else 0) ∧ M' = (I', Lg, Rf, X) ∧ ∀ q, q ≠ 24 → I' q = I q)) := by
  have hn6 := hO.1
  intro r
  induction r with
  | zero =>
    intro i s a5 a6 a7 a8 I1 hir hwi hsl hd he hA hq
    obtain rfl : i = w + k := by omega
    have hs1 : s = [den (hs_N (hs_f σ p))] := he
    subst hs1
    refine hg_iload4 d_M_isTrue_10 ?_
    refine hg_aload0 d_M_isTrue_12 ?_
    refine hg_getR d_M_isTrue_13 f_M_51 rfl rfl (hX.lt (n := 1) ⟨by decide, by decide⟩ rfl (by omega)) (hR.m (j := 25) (q := (22, 13)) rfl) ?_
    refine hg_iload2 d_M_isTrue_16 ?_
    refine hg_iald_n (j := cl) d_M_isTrue_17 rfl rfl (hX.lt (n := 28) ⟨by decide, by decide⟩ rfl (by omega)) (hX.jn (n := 61) (by decide) rfl (by omega)) ?_
    refine hg_eq1 (y := nI w) (by rw [hq 22 (by decide)]; exact hb) ?_
    refine hg_aload0 d_M_isTrue_18 ?_
    refine hg_getR d_M_isTrue_19 f_M_54 rfl rfl (hX.lt (n := 1) ⟨by decide, by decide⟩ rfl (by omega)) (hR.m (j := 26) (q := (22, 14)) rfl) ?_
    refine hg_iload2 d_M_isTrue_22 ?_
    refine hg_iald_n (j := cl) d_M_isTrue_23 rfl rfl (hX.lt (n := 28) ⟨by decide, by decide⟩ rfl (by omega)) (hX.jn (n := 61) (by decide) rfl (by omega)) ?_
    refine hg_eq1 (y := nI k) (by rw [hq 22 (by decide)]; exact hl) ?_
    refine hg_iadd d_M_isTrue_24 ?_
    refine hg_eq1 (y := nI (w + k)) (nI_add _ _) ?_
    refine hg_icmp_ge (tgt := 251) d_M_isTrue_25 (by decide) (fun h_1 => ?_) (fun h_1 => absurd (Int32.le_refl _) h_1)
    refine hg_aload0 d_M_isTrue_251 ?_
    refine hg_getR d_M_isTrue_252 f_M_60 rfl rfl (hX.lt (n := 1) ⟨by decide, by decide⟩ rfl (by omega)) (hR.m (j := 29) (q := (24, 0)) rfl) ?_
    refine hg_iconst (v := 0) d_M_isTrue_255 (by decide) ?_
    refine hg_zald_n (j := 0) d_M_isTrue_256 rfl rfl (hX.lt (n := 1) ⟨by decide, by decide⟩ rfl (by omega)) (hX.jn (n := 110) (by decide) rfl (by omega)) ?_
    refine hg_eq1 (y := if den (hs_N (hs_f σ p)) = true then 1 else 0) (hA.1) ?_
    refine hg_ireturn d_M_isTrue_257 rfl (by split <;> rfl) ?_
    exact ⟨I1, rfl, rfl, hq⟩
  | succ r ih =>
    intro i s a5 a6 a7 a8 I1 hir hwi hsl hd he hA hq
    obtain ⟨c, hc, ec⟩ := hE.1 i hwi (by omega)
    refine hg_iload4 d_M_isTrue_10 ?_
    refine hg_aload0 d_M_isTrue_12 ?_
    refine hg_getR d_M_isTrue_13 f_M_51 rfl rfl (hX.lt (n := 1) ⟨by decide, by decide⟩ rfl (by omega)) (hR.m (j := 25) (q := (22, 13)) rfl) ?_
    refine hg_iload2 d_M_isTrue_16 ?_
    refine hg_iald_n (j := cl) d_M_isTrue_17 rfl rfl (hX.lt (n := 28) ⟨by decide, by decide⟩ rfl (by omega)) (hX.jn (n := 61) (by decide) rfl (by omega)) ?_
    refine hg_eq1 (y := nI w) (by rw [hq 22 (by decide)]; exact hb) ?_
    refine hg_aload0 d_M_isTrue_18 ?_
    refine hg_getR d_M_isTrue_19 f_M_54 rfl rfl (hX.lt (n := 1) ⟨by decide, by decide⟩ rfl (by omega)) (hR.m (j := 26) (q := (22, 14)) rfl) ?_
    refine hg_iload2 d_M_isTrue_22 ?_
    refine hg_iald_n (j := cl) d_M_isTrue_23 rfl rfl (hX.lt (n := 28) ⟨by decide, by decide⟩ rfl (by omega)) (hX.jn (n := 61) (by decide) rfl (by omega)) ?_
    refine hg_eq1 (y := nI k) (by rw [hq 22 (by decide)]; exact hl) ?_
    refine hg_iadd d_M_isTrue_24 ?_
    refine hg_eq1 (y := nI (w + k)) (nI_add _ _) ?_
    refine hg_icmp_ge (tgt := 251) d_M_isTrue_25 (by decide) (fun h_2 => absurd h_2 (nI_ge (by omega) (by omega))) (fun h_2 => ?_)
    refine hg_aload0 d_M_isTrue_28 ?_
    refine hg_getR d_M_isTrue_29 f_M_57 rfl rfl (hX.lt (n := 1) ⟨by decide, by decide⟩ rfl (by omega)) (hR.m (j := 27) (q := (22, 15)) rfl) ?_
    refine hg_iload4 d_M_isTrue_32 ?_
    refine hg_iald_n (j := i) d_M_isTrue_34 rfl rfl (hX.lt (n := 28) ⟨by decide, by decide⟩ rfl (by omega)) (hX.jn (n := 800) (by decide) rfl (by omega)) ?_
    refine hg_eq1 (y := nI c) (by rw [hq 22 (by decide)]; exact ec) ?_
    refine hg_istore5 d_M_isTrue_35 rfl ?_
    refine hg_iload5 d_M_isTrue_37 ?_
    refine hg_iconst (v := 3) d_M_isTrue_39 (by decide) ?_
    refine hg_icmp_lt (tgt := 143) d_M_isTrue_40 (by decide) (fun h3 => ?_) (fun h3 => ?_)
    · have hc3 : c < 3 := (nI_ltI (b := 3) (by omega) (by decide)).mp h3
      have hcl2 : (I 22 15 i).toNatClampNeg = c := by rw [ec]; exact nI_clamp (by omega)
      have hc012 : c = 0 ∨ c = 1 ∨ c = 2 := by omega
      rcases hc012 with rfl | rfl | rfl
      · rcases s with _ | ⟨b, t⟩
        · unfold me_dep at hd; rw [hcl2, if_neg (by decide), if_pos rfl, if_neg (by simp)] at hd; cases hd
        · show hg_WP l E _ Y_M_isTrue 0 0 143 [some (.ref (hg_ad E 21 0)), some (.int (nI p)), some (.int (nI cl)), some (.int (nI (t.length + 1))), some (.int (nI i)), some (.int 0), a6, a7, a8] [] (I1, Lg, Rf, X) _
          have hsl2 : t.length + 1 + (r + 1) ≤ 105 := hsl
          refine hg_iload5 d_M_isTrue_143 ?_
          refine hg_if_ne (tgt := 175) d_M_isTrue_145 (by decide) (fun h_3 => absurd h_3 (by decide)) (fun h_3 => ?_)
          refine hg_aload0 d_M_isTrue_148 ?_
          refine hg_getR d_M_isTrue_149 f_M_60 rfl rfl (hX.lt (n := 1) ⟨by decide, by decide⟩ rfl (by omega)) (hR.m (j := 29) (q := (24, 0)) rfl) ?_
          refine hg_iload3 d_M_isTrue_152 ?_
          refine hg_iconst (v := 1) d_M_isTrue_153 (by decide) ?_
          refine hg_isub d_M_isTrue_154 ?_
          refine hg_eq1 (y := nI t.length) (nI_pred _) ?_
          refine hg_aload0 d_M_isTrue_155 ?_
          refine hg_getR d_M_isTrue_156 f_M_60 rfl rfl (hX.lt (n := 1) ⟨by decide, by decide⟩ rfl (by omega)) (hR.m (j := 29) (q := (24, 0)) rfl) ?_
          refine hg_iload3 d_M_isTrue_159 ?_
          refine hg_iconst (v := 1) d_M_isTrue_160 (by decide) ?_
          refine hg_isub d_M_isTrue_161 ?_
          refine hg_eq1 (y := nI t.length) (nI_pred _) ?_
          refine hg_zald_n (j := t.length) d_M_isTrue_162 rfl rfl (hX.lt (n := 1) ⟨by decide, by decide⟩ rfl (by omega)) (hX.jn (n := 110) (by decide) rfl (by omega)) ?_
          refine hg_eq1 (y := if b = true then 1 else 0) (hA.1) ?_
          refine hg_if_ne (tgt := 170) d_M_isTrue_163 (by decide) (fun j1 => ?_) (fun j1 => ?_)
          · refine hg_iconst (v := 0) d_M_isTrue_170 (by decide) ?_
            refine hg_zast_n (j := t.length) d_M_isTrue_171 rfl rfl (hX.lt (n := 1) ⟨by decide, by decide⟩ rfl (by omega)) (hX.jn (n := 110) (by decide) rfl (by omega)) ?_
            refine hg_goto (tgt := 245) d_M_isTrue_172 (by decide) ?_
            refine hg_iinc4 (v := nI (i + 1)) d_M_isTrue_245 rfl (nI_add _ _) ?_
            refine hg_goto (tgt := 10) d_M_isTrue_248 (by decide) ?_
            refine ih (i + 1) ((!b) :: t) _ _ _ _ _ (by omega) (by omega) (by simp; omega) ?_ ?_ ⟨(hg_u3s _ _ _ _ _).trans ?_, hA.2.u (fun q hq2 => by simp [hg_u3]; omega)⟩ (fun q h24 => by rw [← hq q h24]; funext a b; exact hg_u3k (fun z => h24 z.1))
            · unfold me_dep at hd; rw [hcl2] at hd; simpa using hd
            · rw [← he]; show _ = me_ev (I 22 15) (hs_f σ p) (me_st (hs_f σ p) _ (I 22 15 i).toNatClampNeg) (i + 1) r; rw [hcl2]; rfl
            · clear ih hA hd he hq; cases b <;> first | rfl | (exfalso; revert j1; decide) | (exfalso; revert j2; decide) | (exfalso; revert j3; decide) | (exfalso; revert j4; decide) | (exfalso; revert j5; decide)
          · replace j1 := Decidable.not_not.mp j1
            refine hg_iconst (v := 1) d_M_isTrue_166 (by decide) ?_
            refine hg_goto (tgt := 171) d_M_isTrue_167 (by decide) ?_
            refine hg_zast_n (j := t.length) d_M_isTrue_171 rfl rfl (hX.lt (n := 1) ⟨by decide, by decide⟩ rfl (by omega)) (hX.jn (n := 110) (by decide) rfl (by omega)) ?_
            refine hg_goto (tgt := 245) d_M_isTrue_172 (by decide) ?_
            refine hg_iinc4 (v := nI (i + 1)) d_M_isTrue_245 rfl (nI_add _ _) ?_
            refine hg_goto (tgt := 10) d_M_isTrue_248 (by decide) ?_
            refine ih (i + 1) ((!b) :: t) _ _ _ _ _ (by omega) (by omega) (by simp; omega) ?_ ?_ ⟨(hg_u3s _ _ _ _ _).trans ?_, hA.2.u (fun q hq2 => by simp [hg_u3]; omega)⟩ (fun q h24 => by rw [← hq q h24]; funext a b; exact hg_u3k (fun z => h24 z.1))
            · unfold me_dep at hd; rw [hcl2] at hd; simpa using hd
            · rw [← he]; show _ = me_ev (I 22 15) (hs_f σ p) (me_st (hs_f σ p) _ (I 22 15 i).toNatClampNeg) (i + 1) r; rw [hcl2]; rfl
            · clear ih hA hd he hq; cases b <;> first | rfl | (exfalso; revert j1; decide) | (exfalso; revert j2; decide) | (exfalso; revert j3; decide) | (exfalso; revert j4; decide) | (exfalso; revert j5; decide)
      · rcases s with _ | ⟨b, _ | ⟨a, t⟩⟩
        · unfold me_dep at hd; rw [hcl2, if_neg (by decide), if_neg (by decide), if_neg (by simp)] at hd; cases hd
        · unfold me_dep at hd; rw [hcl2, if_neg (by decide), if_neg (by decide), if_neg (by simp)] at hd; cases hd
        · show hg_WP l E _ Y_M_isTrue 0 0 143 [some (.ref (hg_ad E 21 0)), some (.int (nI p)), some (.int (nI cl)), some (.int (nI (t.length + 1 + 1))), some (.int (nI i)), some (.int 1), a6, a7, a8] [] (I1, Lg, Rf, X) _
          have hsl2 : t.length + 1 + 1 + (r + 1) ≤ 105 := hsl
          refine hg_iload5 d_M_isTrue_143 ?_
          refine hg_if_ne (tgt := 175) d_M_isTrue_145 (by decide) (fun h_4 => ?_) (fun h_4 => absurd (by decide) h_4)
          refine hg_iinc3 (v := nI (t.length + 1)) d_M_isTrue_175 rfl (pk_m1 _) ?_
          refine hg_aload0 d_M_isTrue_178 ?_
          refine hg_getR d_M_isTrue_179 f_M_60 rfl rfl (hX.lt (n := 1) ⟨by decide, by decide⟩ rfl (by omega)) (hR.m (j := 29) (q := (24, 0)) rfl) ?_
          refine hg_iload3 d_M_isTrue_182 ?_
          refine hg_iconst (v := 1) d_M_isTrue_183 (by decide) ?_
          refine hg_isub d_M_isTrue_184 ?_
          refine hg_eq1 (y := nI t.length) (nI_pred _) ?_
          refine hg_iload5 d_M_isTrue_185 ?_
          refine hg_iconst (v := 1) d_M_isTrue_187 (by decide) ?_
          refine hg_icmp_ne (tgt := 219) d_M_isTrue_188 (by decide) (fun h_5 => absurd h_5 (by decide)) (fun h_5 => ?_)
          refine hg_aload0 d_M_isTrue_191 ?_
          refine hg_getR d_M_isTrue_192 f_M_60 rfl rfl (hX.lt (n := 1) ⟨by decide, by decide⟩ rfl (by omega)) (hR.m (j := 29) (q := (24, 0)) rfl) ?_
          refine hg_iload3 d_M_isTrue_195 ?_
          refine hg_iconst (v := 1) d_M_isTrue_196 (by decide) ?_
          refine hg_isub d_M_isTrue_197 ?_
          refine hg_eq1 (y := nI t.length) (nI_pred _) ?_
          refine hg_zald_n (j := t.length) d_M_isTrue_198 rfl rfl (hX.lt (n := 1) ⟨by decide, by decide⟩ rfl (by omega)) (hX.jn (n := 110) (by decide) rfl (by omega)) ?_
          refine hg_eq1 (y := if a = true then 1 else 0) (hA.2.1) ?_
          refine hg_if_eq (tgt := 215) d_M_isTrue_199 (by decide) (fun j2 => ?_) (fun j2 => ?_)
          · refine hg_iconst (v := 0) d_M_isTrue_215 (by decide) ?_
            refine hg_goto (tgt := 244) d_M_isTrue_216 (by decide) ?_
            refine hg_zast_n (j := t.length) d_M_isTrue_244 rfl rfl (hX.lt (n := 1) ⟨by decide, by decide⟩ rfl (by omega)) (hX.jn (n := 110) (by decide) rfl (by omega)) ?_
            refine hg_iinc4 (v := nI (i + 1)) d_M_isTrue_245 rfl (nI_add _ _) ?_
            refine hg_goto (tgt := 10) d_M_isTrue_248 (by decide) ?_
            refine ih (i + 1) ((a && b) :: t) _ _ _ _ _ (by omega) (by omega) (by simp; omega) ?_ ?_ ⟨(hg_u3s _ _ _ _ _).trans ?_, hA.2.2.u (fun q hq2 => by simp [hg_u3]; omega)⟩ (fun q h24 => by rw [← hq q h24]; funext a b; exact hg_u3k (fun z => h24 z.1))
            · unfold me_dep at hd; rw [hcl2] at hd; simpa using hd
            · rw [← he]; show _ = me_ev (I 22 15) (hs_f σ p) (me_st (hs_f σ p) _ (I 22 15 i).toNatClampNeg) (i + 1) r; rw [hcl2]; rfl
            · clear ih hA hd he hq; cases a <;> cases b <;> first | rfl | (exfalso; revert j1; decide) | (exfalso; revert j2; decide) | (exfalso; revert j3; decide) | (exfalso; revert j4; decide) | (exfalso; revert j5; decide)
          · refine hg_aload0 d_M_isTrue_202 ?_
            refine hg_getR d_M_isTrue_203 f_M_60 rfl rfl (hX.lt (n := 1) ⟨by decide, by decide⟩ rfl (by omega)) (hR.m (j := 29) (q := (24, 0)) rfl) ?_
            refine hg_iload3 d_M_isTrue_206 ?_
            refine hg_zald_n (j := (t.length + 1)) d_M_isTrue_207 rfl rfl (hX.lt (n := 1) ⟨by decide, by decide⟩ rfl (by omega)) (hX.jn (n := 110) (by decide) rfl (by omega)) ?_
            refine hg_eq1 (y := if b = true then 1 else 0) (hA.1) ?_
            refine hg_if_eq (tgt := 215) d_M_isTrue_208 (by decide) (fun j3 => ?_) (fun j3 => ?_)
            · refine hg_iconst (v := 0) d_M_isTrue_215 (by decide) ?_
              refine hg_goto (tgt := 244) d_M_isTrue_216 (by decide) ?_
              refine hg_zast_n (j := t.length) d_M_isTrue_244 rfl rfl (hX.lt (n := 1) ⟨by decide, by decide⟩ rfl (by omega)) (hX.jn (n := 110) (by decide) rfl (by omega)) ?_
              refine hg_iinc4 (v := nI (i + 1)) d_M_isTrue_245 rfl (nI_add _ _) ?_
              refine hg_goto (tgt := 10) d_M_isTrue_248 (by decide) ?_
              refine ih (i + 1) ((a && b) :: t) _ _ _ _ _ (by omega) (by omega) (by simp; omega) ?_ ?_ ⟨(hg_u3s _ _ _ _ _).trans ?_, hA.2.2.u (fun q hq2 => by simp [hg_u3]; omega)⟩ (fun q h24 => by rw [← hq q h24]; funext a b; exact hg_u3k (fun z => h24 z.1))
              · unfold me_dep at hd; rw [hcl2] at hd; simpa using hd
              · rw [← he]; show _ = me_ev (I 22 15) (hs_f σ p) (me_st (hs_f σ p) _ (I 22 15 i).toNatClampNeg) (i + 1) r; rw [hcl2]; rfl
              · clear ih hA hd he hq; cases a <;> cases b <;> first | rfl | (exfalso; revert j1; decide) | (exfalso; revert j2; decide) | (exfalso; revert j3; decide) | (exfalso; revert j4; decide) | (exfalso; revert j5; decide)
            · refine hg_iconst (v := 1) d_M_isTrue_211 (by decide) ?_
              refine hg_goto (tgt := 244) d_M_isTrue_212 (by decide) ?_
              refine hg_zast_n (j := t.length) d_M_isTrue_244 rfl rfl (hX.lt (n := 1) ⟨by decide, by decide⟩ rfl (by omega)) (hX.jn (n := 110) (by decide) rfl (by omega)) ?_
              refine hg_iinc4 (v := nI (i + 1)) d_M_isTrue_245 rfl (nI_add _ _) ?_
              refine hg_goto (tgt := 10) d_M_isTrue_248 (by decide) ?_
              refine ih (i + 1) ((a && b) :: t) _ _ _ _ _ (by omega) (by omega) (by simp; omega) ?_ ?_ ⟨(hg_u3s _ _ _ _ _).trans ?_, hA.2.2.u (fun q hq2 => by simp [hg_u3]; omega)⟩ (fun q h24 => by rw [← hq q h24]; funext a b; exact hg_u3k (fun z => h24 z.1))
              · unfold me_dep at hd; rw [hcl2] at hd; simpa using hd
              · rw [← he]; show _ = me_ev (I 22 15) (hs_f σ p) (me_st (hs_f σ p) _ (I 22 15 i).toNatClampNeg) (i + 1) r; rw [hcl2]; rfl
              · clear ih hA hd he hq; cases a <;> cases b <;> first | rfl | (exfalso; revert j1; decide) | (exfalso; revert j2; decide) | (exfalso; revert j3; decide) | (exfalso; revert j4; decide) | (exfalso; revert j5; decide)
      · rcases s with _ | ⟨b, _ | ⟨a, t⟩⟩
        · unfold me_dep at hd; rw [hcl2, if_neg (by decide), if_neg (by decide), if_neg (by simp)] at hd; cases hd
        · unfold me_dep at hd; rw [hcl2, if_neg (by decide), if_neg (by decide), if_neg (by simp)] at hd; cases hd
        · show hg_WP l E _ Y_M_isTrue 0 0 143 [some (.ref (hg_ad E 21 0)), some (.int (nI p)), some (.int (nI cl)), some (.int (nI (t.length + 1 + 1))), some (.int (nI i)), some (.int 2), a6, a7, a8] [] (I1, Lg, Rf, X) _
          have hsl2 : t.length + 1 + 1 + (r + 1) ≤ 105 := hsl
          refine hg_iload5 d_M_isTrue_143 ?_
          refine hg_if_ne (tgt := 175) d_M_isTrue_145 (by decide) (fun h_6 => ?_) (fun h_6 => absurd (by decide) h_6)
          refine hg_iinc3 (v := nI (t.length + 1)) d_M_isTrue_175 rfl (pk_m1 _) ?_
          refine hg_aload0 d_M_isTrue_178 ?_
          refine hg_getR d_M_isTrue_179 f_M_60 rfl rfl (hX.lt (n := 1) ⟨by decide, by decide⟩ rfl (by omega)) (hR.m (j := 29) (q := (24, 0)) rfl) ?_
          refine hg_iload3 d_M_isTrue_182 ?_
          refine hg_iconst (v := 1) d_M_isTrue_183 (by decide) ?_
          refine hg_isub d_M_isTrue_184 ?_
          refine hg_eq1 (y := nI t.length) (nI_pred _) ?_
          refine hg_iload5 d_M_isTrue_185 ?_
          refine hg_iconst (v := 1) d_M_isTrue_187 (by decide) ?_
          refine hg_icmp_ne (tgt := 219) d_M_isTrue_188 (by decide) (fun h_7 => ?_) (fun h_7 => absurd (by decide) h_7)
          refine hg_aload0 d_M_isTrue_219 ?_
          refine hg_getR d_M_isTrue_220 f_M_60 rfl rfl (hX.lt (n := 1) ⟨by decide, by decide⟩ rfl (by omega)) (hR.m (j := 29) (q := (24, 0)) rfl) ?_
          refine hg_iload3 d_M_isTrue_223 ?_
          refine hg_iconst (v := 1) d_M_isTrue_224 (by decide) ?_
          refine hg_isub d_M_isTrue_225 ?_
          refine hg_eq1 (y := nI t.length) (nI_pred _) ?_
          refine hg_zald_n (j := t.length) d_M_isTrue_226 rfl rfl (hX.lt (n := 1) ⟨by decide, by decide⟩ rfl (by omega)) (hX.jn (n := 110) (by decide) rfl (by omega)) ?_
          refine hg_eq1 (y := if a = true then 1 else 0) (hA.2.1) ?_
          refine hg_if_ne (tgt := 239) d_M_isTrue_227 (by decide) (fun j4 => ?_) (fun j4 => ?_)
          · refine hg_iconst (v := 1) d_M_isTrue_239 (by decide) ?_
            refine hg_goto (tgt := 244) d_M_isTrue_240 (by decide) ?_
            refine hg_zast_n (j := t.length) d_M_isTrue_244 rfl rfl (hX.lt (n := 1) ⟨by decide, by decide⟩ rfl (by omega)) (hX.jn (n := 110) (by decide) rfl (by omega)) ?_
            refine hg_iinc4 (v := nI (i + 1)) d_M_isTrue_245 rfl (nI_add _ _) ?_
            refine hg_goto (tgt := 10) d_M_isTrue_248 (by decide) ?_
            refine ih (i + 1) ((a || b) :: t) _ _ _ _ _ (by omega) (by omega) (by simp; omega) ?_ ?_ ⟨(hg_u3s _ _ _ _ _).trans ?_, hA.2.2.u (fun q hq2 => by simp [hg_u3]; omega)⟩ (fun q h24 => by rw [← hq q h24]; funext a b; exact hg_u3k (fun z => h24 z.1))
            · unfold me_dep at hd; rw [hcl2] at hd; simpa using hd
            · rw [← he]; show _ = me_ev (I 22 15) (hs_f σ p) (me_st (hs_f σ p) _ (I 22 15 i).toNatClampNeg) (i + 1) r; rw [hcl2]; rfl
            · clear ih hA hd he hq; cases a <;> cases b <;> first | rfl | (exfalso; revert j1; decide) | (exfalso; revert j2; decide) | (exfalso; revert j3; decide) | (exfalso; revert j4; decide) | (exfalso; revert j5; decide)
          · replace j4 := Decidable.not_not.mp j4
            refine hg_aload0 d_M_isTrue_230 ?_
            refine hg_getR d_M_isTrue_231 f_M_60 rfl rfl (hX.lt (n := 1) ⟨by decide, by decide⟩ rfl (by omega)) (hR.m (j := 29) (q := (24, 0)) rfl) ?_
            refine hg_iload3 d_M_isTrue_234 ?_
            refine hg_zald_n (j := (t.length + 1)) d_M_isTrue_235 rfl rfl (hX.lt (n := 1) ⟨by decide, by decide⟩ rfl (by omega)) (hX.jn (n := 110) (by decide) rfl (by omega)) ?_
            refine hg_eq1 (y := if b = true then 1 else 0) (hA.1) ?_
            refine hg_if_eq (tgt := 243) d_M_isTrue_236 (by decide) (fun j5 => ?_) (fun j5 => ?_)
            · refine hg_iconst (v := 0) d_M_isTrue_243 (by decide) ?_
              refine hg_zast_n (j := t.length) d_M_isTrue_244 rfl rfl (hX.lt (n := 1) ⟨by decide, by decide⟩ rfl (by omega)) (hX.jn (n := 110) (by decide) rfl (by omega)) ?_
              refine hg_iinc4 (v := nI (i + 1)) d_M_isTrue_245 rfl (nI_add _ _) ?_
              refine hg_goto (tgt := 10) d_M_isTrue_248 (by decide) ?_
              refine ih (i + 1) ((a || b) :: t) _ _ _ _ _ (by omega) (by omega) (by simp; omega) ?_ ?_ ⟨(hg_u3s _ _ _ _ _).trans ?_, hA.2.2.u (fun q hq2 => by simp [hg_u3]; omega)⟩ (fun q h24 => by rw [← hq q h24]; funext a b; exact hg_u3k (fun z => h24 z.1))
              · unfold me_dep at hd; rw [hcl2] at hd; simpa using hd
              · rw [← he]; show _ = me_ev (I 22 15) (hs_f σ p) (me_st (hs_f σ p) _ (I 22 15 i).toNatClampNeg) (i + 1) r; rw [hcl2]; rfl
              · clear ih hA hd he hq; cases a <;> cases b <;> first | rfl | (exfalso; revert j1; decide) | (exfalso; revert j2; decide) | (exfalso; revert j3; decide) | (exfalso; revert j4; decide) | (exfalso; revert j5; decide)
            · refine hg_iconst (v := 1) d_M_isTrue_239 (by decide) ?_
              refine hg_goto (tgt := 244) d_M_isTrue_240 (by decide) ?_
              refine hg_zast_n (j := t.length) d_M_isTrue_244 rfl rfl (hX.lt (n := 1) ⟨by decide, by decide⟩ rfl (by omega)) (hX.jn (n := 110) (by decide) rfl (by omega)) ?_
              refine hg_iinc4 (v := nI (i + 1)) d_M_isTrue_245 rfl (nI_add _ _) ?_
              refine hg_goto (tgt := 10) d_M_isTrue_248 (by decide) ?_
              refine ih (i + 1) ((a || b) :: t) _ _ _ _ _ (by omega) (by omega) (by simp; omega) ?_ ?_ ⟨(hg_u3s _ _ _ _ _).trans ?_, hA.2.2.u (fun q hq2 => by simp [hg_u3]; omega)⟩ (fun q h24 => by rw [← hq q h24]; funext a b; exact hg_u3k (fun z => h24 z.1))
              · unfold me_dep at hd; rw [hcl2] at hd; simpa using hd
              · rw [← he]; show _ = me_ev (I 22 15) (hs_f σ p) (me_st (hs_f σ p) _ (I 22 15 i).toNatClampNeg) (i + 1) r; rw [hcl2]; rfl
              · clear ih hA hd he hq; cases a <;> cases b <;> first | rfl | (exfalso; revert j1; decide) | (exfalso; revert j2; decide) | (exfalso; revert j3; decide) | (exfalso; revert j4; decide) | (exfalso; revert j5; decide)
    · have hc3 : 3 ≤ c := Nat.le_of_not_lt (fun z => h3 ((nI_ltI (b := 3) (by omega) (by decide)).mpr z))
      refine hg_aload0 d_M_isTrue_43 ?_
      refine hg_iload1 d_M_isTrue_44 ?_
      refine hg_iload5 d_M_isTrue_45 ?_
      refine hg_iconst (v := 3) d_M_isTrue_47 (by decide) ?_
      refine hg_isub d_M_isTrue_48 ?_
      refine hg_eq1 (y := nI (c - 3)) (pk_sub (b := 3) hc3) ?_
      refine hg_sipush (v := 300) d_M_isTrue_49 (by decide) ?_
      refine hg_idiv d_M_isTrue_52 (by decide) ?_
      refine hg_eq1 (y := nI ((c - 3) / 300)) (pk_div (d := 300) (by omega) (by decide) (by decide)) ?_
      refine hg_cVi d_M_isTrue_53 l_M_217 rfl rfl (hX.lt (n := 1) ⟨by decide, by decide⟩ rfl (by omega)) rfl (Nat.le_of_ble_eq_true rfl) (m_M_letterOf (a := (c - 3) / 300) hX hR (hM.kp (fun j _ => by rw [hq 21 (by decide)]) (fun r _ => by rw [hq 22 (by decide)])) hO hp (by omega)) rfl ?_
      rintro _ _ ⟨rfl, rfl⟩
      refine hg_istore6 d_M_isTrue_56 rfl ?_
      refine hg_iload5 d_M_isTrue_58 ?_
      refine hg_iconst (v := 3) d_M_isTrue_60 (by decide) ?_
      refine hg_isub d_M_isTrue_61 ?_
      refine hg_eq1 (y := nI (c - 3)) (pk_sub (b := 3) hc3) ?_
      refine hg_bipush (v := 100) d_M_isTrue_62 (by decide) ?_
      refine hg_irem d_M_isTrue_64 (by decide) ?_
      refine hg_eq1 (y := nI ((c - 3) % 100)) (pk_rem (d := 100) (by omega) (by decide) (by decide)) ?_
      refine hg_istore7 d_M_isTrue_65 rfl ?_
      refine hg_iload5 d_M_isTrue_67 ?_
      refine hg_iconst (v := 3) d_M_isTrue_69 (by decide) ?_
      refine hg_isub d_M_isTrue_70 ?_
      refine hg_eq1 (y := nI (c - 3)) (pk_sub (b := 3) hc3) ?_
      refine hg_bipush (v := 100) d_M_isTrue_71 (by decide) ?_
      refine hg_idiv d_M_isTrue_73 (by decide) ?_
      refine hg_eq1 (y := nI ((c - 3) / 100)) (pk_div (d := 100) (by omega) (by decide) (by decide)) ?_
      refine hg_iconst (v := 3) d_M_isTrue_74 (by decide) ?_
      refine hg_irem d_M_isTrue_75 (by decide) ?_
      refine hg_eq1 (y := nI ((c - 3) / 100 % 3)) (pk_rem (d := 3) (by omega) (by decide) (by decide)) ?_
      refine hg_istore8 d_M_isTrue_76 rfl ?_
      refine hg_aload0 d_M_isTrue_78 ?_
      refine hg_getR d_M_isTrue_79 f_M_60 rfl rfl (hX.lt (n := 1) ⟨by decide, by decide⟩ rfl (by omega)) (hR.m (j := 29) (q := (24, 0)) rfl) ?_
      refine hg_iload3 d_M_isTrue_82 ?_
      refine hg_iinc3 (v := nI (s.length + 1)) d_M_isTrue_83 rfl (nI_add _ _) ?_
      refine hg_iload8 d_M_isTrue_86 ?_
      refine hg_if_ne (tgt := 106) d_M_isTrue_88 (by decide) (fun g0 => ?_) (fun g0 => ?_)
      · refine hg_iload8 d_M_isTrue_106 ?_
        refine hg_iconst (v := 1) d_M_isTrue_108 (by decide) ?_
        refine hg_icmp_ne (tgt := 127) d_M_isTrue_109 (by decide) (fun g1 => ?_) (fun g1 => ?_)
        · refine hg_iload6 d_M_isTrue_127 ?_
          refine hg_iload7 d_M_isTrue_129 ?_
          refine hg_icmp_le (tgt := 138) d_M_isTrue_131 (by decide) (fun gg => ?_) (fun gg => ?_)
          · refine hg_iconst (v := 0) d_M_isTrue_138 (by decide) ?_
            refine hg_zast_n (j := s.length) d_M_isTrue_139 rfl rfl (hX.lt (n := 1) ⟨by decide, by decide⟩ rfl (by omega)) (hX.jn (n := 110) (by decide) rfl (by omega)) ?_
            refine hg_goto (tgt := 245) d_M_isTrue_140 (by decide) ?_
            refine hg_iinc4 (v := nI (i + 1)) d_M_isTrue_245 rfl (nI_add _ _) ?_
            refine hg_goto (tgt := 10) d_M_isTrue_248 (by decide) ?_
            have hcl2 : (I 22 15 i).toNatClampNeg = c := by rw [ec]; exact nI_clamp (by omega)
            have hbn : nI ((c - 3) / 100 % 3) = 0 → (c - 3) / 100 % 3 = 0 := fun z => (nI_eq (b := 0) (by omega) (by decide)).mp z
            have hbn1 : nI ((c - 3) / 100 % 3) = 1 → (c - 3) / 100 % 3 = 1 := fun z => (nI_eq (b := 1) (by omega) (by decide)).mp z
            have hv : vp_nar .boolean 0 = (if ps_cmp ((c - 3) / 100 % 3) (hs_f σ p ((c - 3) / 300)) (nI ((c - 3) % 100)) = true then 1 else 0) := by
              have z0 : ∀ z : (c - 3) / 100 % 3 = 0, nI ((c - 3) / 100 % 3) = 0 := fun z => by rw [z]; rfl
              have z1 : ∀ z : (c - 3) / 100 % 3 = 1, nI ((c - 3) / 100 % 3) = 1 := fun z => by rw [z]; rfl
              unfold ps_cmp; first | rw [if_pos (hbn g0)] | rw [if_neg (fun z => g0 (z0 z)), if_pos (hbn1 g1)] | rw [if_neg (fun z => g0 (z0 z)), if_neg (fun z => g1 (z1 z))]
              first | (rw [if_pos (decide_eq_true (Int32.not_le.mp gl))]; rfl) | (rw [if_neg (fun z => absurd (of_decide_eq_true z) (Int32.not_lt.mpr gl))]; rfl) | (rw [if_pos (decide_eq_true ge)]; rfl) | (rw [if_neg (fun z => absurd (of_decide_eq_true z) ge)]; rfl) | (rw [if_pos (decide_eq_true (Int32.not_le.mp gg))]; rfl) | (rw [if_neg (fun z => absurd (of_decide_eq_true z) (Int32.not_lt.mpr gg))]; rfl)
            refine ih (i + 1) (ps_cmp ((c - 3) / 100 % 3) (hs_f σ p ((c - 3) / 300)) (nI ((c - 3) % 100)) :: s) _ _ _ _ _ (by omega) (by omega) (by simp; omega) ?_ ?_ ⟨(hg_u3s _ _ _ _ _).trans hv, hA.u (fun q hq2 => by simp [hg_u3]; omega)⟩ (fun q h24 => by rw [← hq q h24]; funext a b; exact hg_u3k (fun z => h24 z.1))
            · unfold me_dep at hd; rw [hcl2, if_pos hc3] at hd; exact hd
            · rw [← he]; show _ = me_ev (I 22 15) (hs_f σ p) (me_st (hs_f σ p) s (I 22 15 i).toNatClampNeg) (i + 1) r; rw [hcl2]; unfold me_st; rw [if_pos hc3]
          · refine hg_iconst (v := 1) d_M_isTrue_134 (by decide) ?_
            refine hg_goto (tgt := 139) d_M_isTrue_135 (by decide) ?_
            refine hg_zast_n (j := s.length) d_M_isTrue_139 rfl rfl (hX.lt (n := 1) ⟨by decide, by decide⟩ rfl (by omega)) (hX.jn (n := 110) (by decide) rfl (by omega)) ?_
            refine hg_goto (tgt := 245) d_M_isTrue_140 (by decide) ?_
            refine hg_iinc4 (v := nI (i + 1)) d_M_isTrue_245 rfl (nI_add _ _) ?_
            refine hg_goto (tgt := 10) d_M_isTrue_248 (by decide) ?_
            have hcl2 : (I 22 15 i).toNatClampNeg = c := by rw [ec]; exact nI_clamp (by omega)
            have hbn : nI ((c - 3) / 100 % 3) = 0 → (c - 3) / 100 % 3 = 0 := fun z => (nI_eq (b := 0) (by omega) (by decide)).mp z
            have hbn1 : nI ((c - 3) / 100 % 3) = 1 → (c - 3) / 100 % 3 = 1 := fun z => (nI_eq (b := 1) (by omega) (by decide)).mp z
            have hv : vp_nar .boolean 1 = (if ps_cmp ((c - 3) / 100 % 3) (hs_f σ p ((c - 3) / 300)) (nI ((c - 3) % 100)) = true then 1 else 0) := by
              have z0 : ∀ z : (c - 3) / 100 % 3 = 0, nI ((c - 3) / 100 % 3) = 0 := fun z => by rw [z]; rfl
              have z1 : ∀ z : (c - 3) / 100 % 3 = 1, nI ((c - 3) / 100 % 3) = 1 := fun z => by rw [z]; rfl
              unfold ps_cmp; first | rw [if_pos (hbn g0)] | rw [if_neg (fun z => g0 (z0 z)), if_pos (hbn1 g1)] | rw [if_neg (fun z => g0 (z0 z)), if_neg (fun z => g1 (z1 z))]
              first | (rw [if_pos (decide_eq_true (Int32.not_le.mp gl))]; rfl) | (rw [if_neg (fun z => absurd (of_decide_eq_true z) (Int32.not_lt.mpr gl))]; rfl) | (rw [if_pos (decide_eq_true ge)]; rfl) | (rw [if_neg (fun z => absurd (of_decide_eq_true z) ge)]; rfl) | (rw [if_pos (decide_eq_true (Int32.not_le.mp gg))]; rfl) | (rw [if_neg (fun z => absurd (of_decide_eq_true z) (Int32.not_lt.mpr gg))]; rfl)
            refine ih (i + 1) (ps_cmp ((c - 3) / 100 % 3) (hs_f σ p ((c - 3) / 300)) (nI ((c - 3) % 100)) :: s) _ _ _ _ _ (by omega) (by omega) (by simp; omega) ?_ ?_ ⟨(hg_u3s _ _ _ _ _).trans hv, hA.u (fun q hq2 => by simp [hg_u3]; omega)⟩ (fun q h24 => by rw [← hq q h24]; funext a b; exact hg_u3k (fun z => h24 z.1))
            · unfold me_dep at hd; rw [hcl2, if_pos hc3] at hd; exact hd
            · rw [← he]; show _ = me_ev (I 22 15) (hs_f σ p) (me_st (hs_f σ p) s (I 22 15 i).toNatClampNeg) (i + 1) r; rw [hcl2]; unfold me_st; rw [if_pos hc3]
        · replace g1 := Decidable.not_not.mp g1
          refine hg_iload6 d_M_isTrue_112 ?_
          refine hg_iload7 d_M_isTrue_114 ?_
          refine hg_icmp_ne (tgt := 123) d_M_isTrue_116 (by decide) (fun ge => ?_) (fun ge => ?_)
          · refine hg_iconst (v := 0) d_M_isTrue_123 (by decide) ?_
            refine hg_goto (tgt := 139) d_M_isTrue_124 (by decide) ?_
            refine hg_zast_n (j := s.length) d_M_isTrue_139 rfl rfl (hX.lt (n := 1) ⟨by decide, by decide⟩ rfl (by omega)) (hX.jn (n := 110) (by decide) rfl (by omega)) ?_
            refine hg_goto (tgt := 245) d_M_isTrue_140 (by decide) ?_
            refine hg_iinc4 (v := nI (i + 1)) d_M_isTrue_245 rfl (nI_add _ _) ?_
            refine hg_goto (tgt := 10) d_M_isTrue_248 (by decide) ?_
            have hcl2 : (I 22 15 i).toNatClampNeg = c := by rw [ec]; exact nI_clamp (by omega)
            have hbn : nI ((c - 3) / 100 % 3) = 0 → (c - 3) / 100 % 3 = 0 := fun z => (nI_eq (b := 0) (by omega) (by decide)).mp z
            have hbn1 : nI ((c - 3) / 100 % 3) = 1 → (c - 3) / 100 % 3 = 1 := fun z => (nI_eq (b := 1) (by omega) (by decide)).mp z
            have hv : vp_nar .boolean 0 = (if ps_cmp ((c - 3) / 100 % 3) (hs_f σ p ((c - 3) / 300)) (nI ((c - 3) % 100)) = true then 1 else 0) := by
              have z0 : ∀ z : (c - 3) / 100 % 3 = 0, nI ((c - 3) / 100 % 3) = 0 := fun z => by rw [z]; rfl
              have z1 : ∀ z : (c - 3) / 100 % 3 = 1, nI ((c - 3) / 100 % 3) = 1 := fun z => by rw [z]; rfl
              unfold ps_cmp; first | rw [if_pos (hbn g0)] | rw [if_neg (fun z => g0 (z0 z)), if_pos (hbn1 g1)] | rw [if_neg (fun z => g0 (z0 z)), if_neg (fun z => g1 (z1 z))]
              first | (rw [if_pos (decide_eq_true (Int32.not_le.mp gl))]; rfl) | (rw [if_neg (fun z => absurd (of_decide_eq_true z) (Int32.not_lt.mpr gl))]; rfl) | (rw [if_pos (decide_eq_true ge)]; rfl) | (rw [if_neg (fun z => absurd (of_decide_eq_true z) ge)]; rfl) | (rw [if_pos (decide_eq_true (Int32.not_le.mp gg))]; rfl) | (rw [if_neg (fun z => absurd (of_decide_eq_true z) (Int32.not_lt.mpr gg))]; rfl)
            refine ih (i + 1) (ps_cmp ((c - 3) / 100 % 3) (hs_f σ p ((c - 3) / 300)) (nI ((c - 3) % 100)) :: s) _ _ _ _ _ (by omega) (by omega) (by simp; omega) ?_ ?_ ⟨(hg_u3s _ _ _ _ _).trans hv, hA.u (fun q hq2 => by simp [hg_u3]; omega)⟩ (fun q h24 => by rw [← hq q h24]; funext a b; exact hg_u3k (fun z => h24 z.1))
            · unfold me_dep at hd; rw [hcl2, if_pos hc3] at hd; exact hd
            · rw [← he]; show _ = me_ev (I 22 15) (hs_f σ p) (me_st (hs_f σ p) s (I 22 15 i).toNatClampNeg) (i + 1) r; rw [hcl2]; unfold me_st; rw [if_pos hc3]
          · replace ge := Decidable.not_not.mp ge
            refine hg_iconst (v := 1) d_M_isTrue_119 (by decide) ?_
            refine hg_goto (tgt := 139) d_M_isTrue_120 (by decide) ?_
            refine hg_zast_n (j := s.length) d_M_isTrue_139 rfl rfl (hX.lt (n := 1) ⟨by decide, by decide⟩ rfl (by omega)) (hX.jn (n := 110) (by decide) rfl (by omega)) ?_
            refine hg_goto (tgt := 245) d_M_isTrue_140 (by decide) ?_
            refine hg_iinc4 (v := nI (i + 1)) d_M_isTrue_245 rfl (nI_add _ _) ?_
            refine hg_goto (tgt := 10) d_M_isTrue_248 (by decide) ?_
            have hcl2 : (I 22 15 i).toNatClampNeg = c := by rw [ec]; exact nI_clamp (by omega)
            have hbn : nI ((c - 3) / 100 % 3) = 0 → (c - 3) / 100 % 3 = 0 := fun z => (nI_eq (b := 0) (by omega) (by decide)).mp z
            have hbn1 : nI ((c - 3) / 100 % 3) = 1 → (c - 3) / 100 % 3 = 1 := fun z => (nI_eq (b := 1) (by omega) (by decide)).mp z
            have hv : vp_nar .boolean 1 = (if ps_cmp ((c - 3) / 100 % 3) (hs_f σ p ((c - 3) / 300)) (nI ((c - 3) % 100)) = true then 1 else 0) := by
              have z0 : ∀ z : (c - 3) / 100 % 3 = 0, nI ((c - 3) / 100 % 3) = 0 := fun z => by rw [z]; rfl
              have z1 : ∀ z : (c - 3) / 100 % 3 = 1, nI ((c - 3) / 100 % 3) = 1 := fun z => by rw [z]; rfl
              unfold ps_cmp; first | rw [if_pos (hbn g0)] | rw [if_neg (fun z => g0 (z0 z)), if_pos (hbn1 g1)] | rw [if_neg (fun z => g0 (z0 z)), if_neg (fun z => g1 (z1 z))]
              first | (rw [if_pos (decide_eq_true (Int32.not_le.mp gl))]; rfl) | (rw [if_neg (fun z => absurd (of_decide_eq_true z) (Int32.not_lt.mpr gl))]; rfl) | (rw [if_pos (decide_eq_true ge)]; rfl) | (rw [if_neg (fun z => absurd (of_decide_eq_true z) ge)]; rfl) | (rw [if_pos (decide_eq_true (Int32.not_le.mp gg))]; rfl) | (rw [if_neg (fun z => absurd (of_decide_eq_true z) (Int32.not_lt.mpr gg))]; rfl)
            refine ih (i + 1) (ps_cmp ((c - 3) / 100 % 3) (hs_f σ p ((c - 3) / 300)) (nI ((c - 3) % 100)) :: s) _ _ _ _ _ (by omega) (by omega) (by simp; omega) ?_ ?_ ⟨(hg_u3s _ _ _ _ _).trans hv, hA.u (fun q hq2 => by simp [hg_u3]; omega)⟩ (fun q h24 => by rw [← hq q h24]; funext a b; exact hg_u3k (fun z => h24 z.1))
            · unfold me_dep at hd; rw [hcl2, if_pos hc3] at hd; exact hd
            · rw [← he]; show _ = me_ev (I 22 15) (hs_f σ p) (me_st (hs_f σ p) s (I 22 15 i).toNatClampNeg) (i + 1) r; rw [hcl2]; unfold me_st; rw [if_pos hc3]
      · replace g0 := Decidable.not_not.mp g0
        refine hg_iload6 d_M_isTrue_91 ?_
        refine hg_iload7 d_M_isTrue_93 ?_
        refine hg_icmp_ge (tgt := 102) d_M_isTrue_95 (by decide) (fun gl => ?_) (fun gl => ?_)
        · refine hg_iconst (v := 0) d_M_isTrue_102 (by decide) ?_
          refine hg_goto (tgt := 139) d_M_isTrue_103 (by decide) ?_
          refine hg_zast_n (j := s.length) d_M_isTrue_139 rfl rfl (hX.lt (n := 1) ⟨by decide, by decide⟩ rfl (by omega)) (hX.jn (n := 110) (by decide) rfl (by omega)) ?_
          refine hg_goto (tgt := 245) d_M_isTrue_140 (by decide) ?_
          refine hg_iinc4 (v := nI (i + 1)) d_M_isTrue_245 rfl (nI_add _ _) ?_
          refine hg_goto (tgt := 10) d_M_isTrue_248 (by decide) ?_
          have hcl2 : (I 22 15 i).toNatClampNeg = c := by rw [ec]; exact nI_clamp (by omega)
          have hbn : nI ((c - 3) / 100 % 3) = 0 → (c - 3) / 100 % 3 = 0 := fun z => (nI_eq (b := 0) (by omega) (by decide)).mp z
          have hbn1 : nI ((c - 3) / 100 % 3) = 1 → (c - 3) / 100 % 3 = 1 := fun z => (nI_eq (b := 1) (by omega) (by decide)).mp z
          have hv : vp_nar .boolean 0 = (if ps_cmp ((c - 3) / 100 % 3) (hs_f σ p ((c - 3) / 300)) (nI ((c - 3) % 100)) = true then 1 else 0) := by
            have z0 : ∀ z : (c - 3) / 100 % 3 = 0, nI ((c - 3) / 100 % 3) = 0 := fun z => by rw [z]; rfl
            have z1 : ∀ z : (c - 3) / 100 % 3 = 1, nI ((c - 3) / 100 % 3) = 1 := fun z => by rw [z]; rfl
            unfold ps_cmp; first | rw [if_pos (hbn g0)] | rw [if_neg (fun z => g0 (z0 z)), if_pos (hbn1 g1)] | rw [if_neg (fun z => g0 (z0 z)), if_neg (fun z => g1 (z1 z))]
            first | (rw [if_pos (decide_eq_true (Int32.not_le.mp gl))]; rfl) | (rw [if_neg (fun z => absurd (of_decide_eq_true z) (Int32.not_lt.mpr gl))]; rfl) | (rw [if_pos (decide_eq_true ge)]; rfl) | (rw [if_neg (fun z => absurd (of_decide_eq_true z) ge)]; rfl) | (rw [if_pos (decide_eq_true (Int32.not_le.mp gg))]; rfl) | (rw [if_neg (fun z => absurd (of_decide_eq_true z) (Int32.not_lt.mpr gg))]; rfl)
          refine ih (i + 1) (ps_cmp ((c - 3) / 100 % 3) (hs_f σ p ((c - 3) / 300)) (nI ((c - 3) % 100)) :: s) _ _ _ _ _ (by omega) (by omega) (by simp; omega) ?_ ?_ ⟨(hg_u3s _ _ _ _ _).trans hv, hA.u (fun q hq2 => by simp [hg_u3]; omega)⟩ (fun q h24 => by rw [← hq q h24]; funext a b; exact hg_u3k (fun z => h24 z.1))
          · unfold me_dep at hd; rw [hcl2, if_pos hc3] at hd; exact hd
          · rw [← he]; show _ = me_ev (I 22 15) (hs_f σ p) (me_st (hs_f σ p) s (I 22 15 i).toNatClampNeg) (i + 1) r; rw [hcl2]; unfold me_st; rw [if_pos hc3]
        · refine hg_iconst (v := 1) d_M_isTrue_98 (by decide) ?_
          refine hg_goto (tgt := 139) d_M_isTrue_99 (by decide) ?_
          refine hg_zast_n (j := s.length) d_M_isTrue_139 rfl rfl (hX.lt (n := 1) ⟨by decide, by decide⟩ rfl (by omega)) (hX.jn (n := 110) (by decide) rfl (by omega)) ?_
          refine hg_goto (tgt := 245) d_M_isTrue_140 (by decide) ?_
          refine hg_iinc4 (v := nI (i + 1)) d_M_isTrue_245 rfl (nI_add _ _) ?_
          refine hg_goto (tgt := 10) d_M_isTrue_248 (by decide) ?_
          have hcl2 : (I 22 15 i).toNatClampNeg = c := by rw [ec]; exact nI_clamp (by omega)
          have hbn : nI ((c - 3) / 100 % 3) = 0 → (c - 3) / 100 % 3 = 0 := fun z => (nI_eq (b := 0) (by omega) (by decide)).mp z
          have hbn1 : nI ((c - 3) / 100 % 3) = 1 → (c - 3) / 100 % 3 = 1 := fun z => (nI_eq (b := 1) (by omega) (by decide)).mp z
          have hv : vp_nar .boolean 1 = (if ps_cmp ((c - 3) / 100 % 3) (hs_f σ p ((c - 3) / 300)) (nI ((c - 3) % 100)) = true then 1 else 0) := by
            have z0 : ∀ z : (c - 3) / 100 % 3 = 0, nI ((c - 3) / 100 % 3) = 0 := fun z => by rw [z]; rfl
            have z1 : ∀ z : (c - 3) / 100 % 3 = 1, nI ((c - 3) / 100 % 3) = 1 := fun z => by rw [z]; rfl
            unfold ps_cmp; first | rw [if_pos (hbn g0)] | rw [if_neg (fun z => g0 (z0 z)), if_pos (hbn1 g1)] | rw [if_neg (fun z => g0 (z0 z)), if_neg (fun z => g1 (z1 z))]
            first | (rw [if_pos (decide_eq_true (Int32.not_le.mp gl))]; rfl) | (rw [if_neg (fun z => absurd (of_decide_eq_true z) (Int32.not_lt.mpr gl))]; rfl) | (rw [if_pos (decide_eq_true ge)]; rfl) | (rw [if_neg (fun z => absurd (of_decide_eq_true z) ge)]; rfl) | (rw [if_pos (decide_eq_true (Int32.not_le.mp gg))]; rfl) | (rw [if_neg (fun z => absurd (of_decide_eq_true z) (Int32.not_lt.mpr gg))]; rfl)
          refine ih (i + 1) (ps_cmp ((c - 3) / 100 % 3) (hs_f σ p ((c - 3) / 300)) (nI ((c - 3) % 100)) :: s) _ _ _ _ _ (by omega) (by omega) (by simp; omega) ?_ ?_ ⟨(hg_u3s _ _ _ _ _).trans hv, hA.u (fun q hq2 => by simp [hg_u3]; omega)⟩ (fun q h24 => by rw [← hq q h24]; funext a b; exact hg_u3k (fun z => h24 z.1))
          · unfold me_dep at hd; rw [hcl2, if_pos hc3] at hd; exact hd
          · rw [← he]; show _ = me_ev (I 22 15) (hs_f σ p) (me_st (hs_f σ p) s (I 22 15 i).toNatClampNeg) (i + 1) r; rw [hcl2]; unfold me_st; rw [if_pos hc3]
theorem m_M_isTrue {p cl w k : Nat} {den : (Nat → Int32) → Bool} (hX : hg_XS T X) (hR : hg_SR T Rf) (hM : hs_MS σ I) (hO : hs_ok T σ) (hp : p < hs_n σ) (hcl : cl < 61) (hb : I 22 13 cl = nI w) (hl : I 22 14 cl = nI k) (hwk : w + k ≤ 800) (hk : k ≤ 100) (hE : ps_me (I 22 15) w k den) : hg_MC l E (d + 2) Y_M_isTrue 0 0 [.ref (hg_ad E 21 0), .int (nI p), .int (nI cl)] (I, Lg, Rf, X) (hg_i (fun v M' => ∃ I' : Nat → Nat → Nat → Int32, v = (if den (hs_N (hs_f σ p)) = true then 1 else 0) ∧ M' = (I', Lg, Rf, X) ∧ ∀ q, q ≠ 24 → I' q = I q)) := by
  refine hg_mc k_M_isTrue (Nat.le_of_ble_eq_true rfl) ?_
  show hg_WP l E _ Y_M_isTrue 0 0 0 [some (.ref (hg_ad E 21 0)), some (.int (nI p)), some (.int (nI cl)), none, none, none, none, none, none] [] (I, Lg, Rf, X) _
  refine hg_iconst (v := 0) d_M_isTrue_0 (by decide) ?_
  refine hg_istore3 d_M_isTrue_1 rfl ?_
  refine hg_aload0 d_M_isTrue_2 ?_
  refine hg_getR d_M_isTrue_3 f_M_51 rfl rfl (hX.lt (n := 1) ⟨by decide, by decide⟩ rfl (by omega)) (hR.m (j := 25) (q := (22, 13)) rfl) ?_
  refine hg_iload2 d_M_isTrue_6 ?_
  refine hg_iald_n (j := cl) d_M_isTrue_7 rfl rfl (hX.lt (n := 28) ⟨by decide, by decide⟩ rfl (by omega)) (hX.jn (n := 61) (by decide) rfl (by omega)) ?_
  refine hg_eq1 (y := nI w) (hb) ?_
  refine hg_istore4 d_M_isTrue_8 rfl ?_
  exact m_M_isTrue_loop hX hR hM hO hp hcl hb hl hwk hk hE k w [] _ _ _ _ I (by omega) (Nat.le_refl _) (by simp; omega) (hE.2.2 0) (hE.2.1 _ []) trivial (fun _ _ => rfl)

end M28
