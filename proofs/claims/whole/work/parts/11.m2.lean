/-! Scene: a TOWN's steps, dread, who is ill -/
section M2
variable {l : Launch} {E : hg_E} {d T : Nat}
variable {I : Nat → Nat → Nat → Int32} {Lg : Nat → Nat → Nat → Int64} {Rf : Nat → Nat → Nat → Option (Nat × Nat)} {X : Nat × (Nat → Nat) × (Nat → Nat → Nat)}
theorem hg_and7 (x : Int32) : ∃ j : Nat, j < 8 ∧ x &&& 7 = nI j := pk_andE x (m := 7) 3 (by decide)
theorem hg_or8 {j : Nat} (h : j < 8) : j = 0 ∨ j = 1 ∨ j = 2 ∨ j = 3 ∨ j = 4 ∨ j = 5 ∨ j = 6 ∨ j = 7 := by omega

theorem m_O_fearOf_loop {t s : Nat} (hX : hg_XS T X) (hR : hg_SR T Rf) (ht : t ≤ T) (hs : s < 3) (hl : X.2.2 20 t ≤ 100) : ∀ (k i : Nat) (q : Int32 × Int32) (a7 a8 a9 : Option Value), hg_c1 a7 = true → hg_c1 a8 = true → hg_c1 a9 = true → i + k = X.2.2 20 t → (hc_ev (I 20 t) (I 6 s) q i k).1 = hc_fear (I 20 t) (X.2.2 20 t) (I 6 s) → hg_WP l E (d) Y_O_fearOf 0 0 18 [some (.ref (hg_ad E 19 t)), some (.ref (hg_ad E 6 s)), some (.int q.1), some (.int q.2), some (.ref (hg_ad E 20 t)), some (.int (nI (X.2.2 20 t))), some (.int (nI i)), a7, a8, a9] [] (I, Lg, Rf, X) (hg_i (fun v M' => v = hc_fear (I 20 t) (X.2.2 20 t) (I 6 s) ∧ M' = (I, Lg, Rf, X))) := by
  intro k
  induction k with
  | zero =>
    intro i q a7 a8 a9 ha7 ha8 ha9 hik hq
    refine hg_iload6 d_O_fearOf_18 ?_
    refine hg_iload5 d_O_fearOf_20 ?_
    refine hg_icmp_ge (tgt := 213) d_O_fearOf_22 (by decide) (fun h_1 => ?_) (fun h_1 => absurd (by rw [show i = X.2.2 20 t by omega]; exact Int32.le_refl _) h_1)
    refine hg_iload2 d_O_fearOf_213 ?_
    refine hg_ireturn d_O_fearOf_214 rfl rfl ?_
    exact ⟨hq, rfl⟩
  | succ k ih =>
    intro i q a7 a8 a9 ha7 ha8 ha9 hik hq
    refine hg_iload6 d_O_fearOf_18 ?_
    refine hg_iload5 d_O_fearOf_20 ?_
    refine hg_icmp_ge (tgt := 213) d_O_fearOf_22 (by decide) (fun h_2 => absurd h_2 (nI_ge (by omega) (by omega))) (fun h_2 => ?_)
    refine hg_aload4 d_O_fearOf_25 ?_
    refine hg_iload6 d_O_fearOf_27 ?_
    refine hg_iald_n (j := i) d_O_fearOf_29 rfl rfl (hX.ts ht) ⟨by omega, by omega⟩ ?_
    refine hg_istore7 d_O_fearOf_30 rfl ?_
    refine hg_iload7 d_O_fearOf_32 ?_
    refine hg_bipush (v := 6) d_O_fearOf_34 (by decide) ?_
    refine hg_ishr d_O_fearOf_36 ?_
    refine hg_istore8 d_O_fearOf_37 rfl ?_
    refine hg_aload1 d_O_fearOf_39 ?_
    refine hg_iload7 d_O_fearOf_40 ?_
    refine hg_iconst (v := 3) d_O_fearOf_42 (by decide) ?_
    refine hg_ishr d_O_fearOf_43 ?_
    refine hg_bipush (v := 7) d_O_fearOf_44 (by decide) ?_
    refine hg_iand d_O_fearOf_46 ?_
    obtain ⟨jx, hjx, ejx⟩ := hg_and7 (I 20 t i >>> (3 &&& 31))
    refine hg_eq1 (y := nI jx) ejx ?_
    refine hg_iald_n (j := jx) d_O_fearOf_47 rfl rfl (hX.lt (n := 3) ⟨by decide, by decide⟩ rfl (by omega)) (hX.jn (n := 8) (by decide) rfl (by omega)) ?_
    refine hg_istore9 d_O_fearOf_48 rfl ?_
    refine hg_iload7 d_O_fearOf_50 ?_
    refine hg_bipush (v := 7) d_O_fearOf_52 (by decide) ?_
    refine hg_iand d_O_fearOf_54 ?_
    obtain ⟨j, hj, ej⟩ := hg_and7 (I 20 t i)
    refine hg_eq1 (y := nI j) ej ?_
    rcases hg_or8 hj with rfl | rfl | rfl | rfl | rfl | rfl | rfl | rfl
    · refine hg_tabI (off := 41) (tgt := 96) d_O_fearOf_55 (by decide) (by decide) rfl (by decide) ?_
      refine hg_iload3 d_O_fearOf_96 ?_
      refine hg_iconst (v := 1) d_O_fearOf_97 (by decide) ?_
      refine hg_ishl d_O_fearOf_98 ?_
      refine hg_iload9 d_O_fearOf_99 ?_
      refine hg_iload8 d_O_fearOf_101 ?_
      refine hg_icmp_ge (tgt := 110) d_O_fearOf_103 (by decide) (fun h_3 => ?_) (fun h_3 => ?_)
      · refine hg_iconst (v := 0) d_O_fearOf_110 (by decide) ?_
        refine hg_ior d_O_fearOf_111 ?_
        refine hg_istore3 d_O_fearOf_112 rfl ?_
        refine hg_goto (tgt := 207) d_O_fearOf_113 (by decide) ?_
        refine hg_iinc6 (v := nI (i + 1)) d_O_fearOf_207 rfl (nI_add _ _) ?_
        refine hg_goto (tgt := 18) d_O_fearOf_210 (by decide) ?_
        refine ih (i + 1) (q.1, (q.2 <<< (1 &&& 31)) ||| 0) _ _ _ rfl rfl rfl (by omega) ?_
        rw [← hq]; show _ = (hc_ev (I 20 t) (I 6 s) (hc_st (I 6 s) q (I 20 t i)) (i + 1) k).1
        congr 2
        simp only [hc_st, ejx, ej, nI_clamp (show jx < 2 ^ 31 by omega)]
        first | (simp [nI, *]; done) | (simp [nI, ← Int32.not_le, *]; done) | (simp [nI]; rw [if_pos (by assumption)]) | (simp [nI]; rw [if_neg (by assumption)]; simp)
      · refine hg_iconst (v := 1) d_O_fearOf_106 (by decide) ?_
        refine hg_goto (tgt := 111) d_O_fearOf_107 (by decide) ?_
        refine hg_ior d_O_fearOf_111 ?_
        refine hg_istore3 d_O_fearOf_112 rfl ?_
        refine hg_goto (tgt := 207) d_O_fearOf_113 (by decide) ?_
        refine hg_iinc6 (v := nI (i + 1)) d_O_fearOf_207 rfl (nI_add _ _) ?_
        refine hg_goto (tgt := 18) d_O_fearOf_210 (by decide) ?_
        refine ih (i + 1) (q.1, (q.2 <<< (1 &&& 31)) ||| 1) _ _ _ rfl rfl rfl (by omega) ?_
        rw [← hq]; show _ = (hc_ev (I 20 t) (I 6 s) (hc_st (I 6 s) q (I 20 t i)) (i + 1) k).1
        congr 2
        simp only [hc_st, ejx, ej, nI_clamp (show jx < 2 ^ 31 by omega)]
        first | (simp [nI, *]; done) | (simp [nI, ← Int32.not_le, *]; done) | (simp [nI]; rw [if_pos (by assumption)]) | (simp [nI]; rw [if_neg (by assumption)]; simp)
    · refine hg_tabI (off := 61) (tgt := 116) d_O_fearOf_55 (by decide) (by decide) rfl (by decide) ?_
      refine hg_iload3 d_O_fearOf_116 ?_
      refine hg_iconst (v := 1) d_O_fearOf_117 (by decide) ?_
      refine hg_ishl d_O_fearOf_118 ?_
      refine hg_iload9 d_O_fearOf_119 ?_
      refine hg_iload8 d_O_fearOf_121 ?_
      refine hg_icmp_ne (tgt := 130) d_O_fearOf_123 (by decide) (fun h_4 => ?_) (fun h_4 => ?_)
      · refine hg_iconst (v := 0) d_O_fearOf_130 (by decide) ?_
        refine hg_ior d_O_fearOf_131 ?_
        refine hg_istore3 d_O_fearOf_132 rfl ?_
        refine hg_goto (tgt := 207) d_O_fearOf_133 (by decide) ?_
        refine hg_iinc6 (v := nI (i + 1)) d_O_fearOf_207 rfl (nI_add _ _) ?_
        refine hg_goto (tgt := 18) d_O_fearOf_210 (by decide) ?_
        refine ih (i + 1) (q.1, (q.2 <<< (1 &&& 31)) ||| 0) _ _ _ rfl rfl rfl (by omega) ?_
        rw [← hq]; show _ = (hc_ev (I 20 t) (I 6 s) (hc_st (I 6 s) q (I 20 t i)) (i + 1) k).1
        congr 2
        simp only [hc_st, ejx, ej, nI_clamp (show jx < 2 ^ 31 by omega)]
        first | (simp [nI, *]; done) | (simp [nI, ← Int32.not_le, *]; done) | (simp [nI]; rw [if_pos (by assumption)]) | (simp [nI]; rw [if_neg (by assumption)]; simp)
      · replace h_4 := Decidable.not_not.mp h_4
        refine hg_iconst (v := 1) d_O_fearOf_126 (by decide) ?_
        refine hg_goto (tgt := 131) d_O_fearOf_127 (by decide) ?_
        refine hg_ior d_O_fearOf_131 ?_
        refine hg_istore3 d_O_fearOf_132 rfl ?_
        refine hg_goto (tgt := 207) d_O_fearOf_133 (by decide) ?_
        refine hg_iinc6 (v := nI (i + 1)) d_O_fearOf_207 rfl (nI_add _ _) ?_
        refine hg_goto (tgt := 18) d_O_fearOf_210 (by decide) ?_
        refine ih (i + 1) (q.1, (q.2 <<< (1 &&& 31)) ||| 1) _ _ _ rfl rfl rfl (by omega) ?_
        rw [← hq]; show _ = (hc_ev (I 20 t) (I 6 s) (hc_st (I 6 s) q (I 20 t i)) (i + 1) k).1
        congr 2
        simp only [hc_st, ejx, ej, nI_clamp (show jx < 2 ^ 31 by omega)]
        first | (simp [nI, *]; done) | (simp [nI, ← Int32.not_le, *]; done) | (simp [nI]; rw [if_pos (by assumption)]) | (simp [nI]; rw [if_neg (by assumption)]; simp)
    · refine hg_tabI (off := 81) (tgt := 136) d_O_fearOf_55 (by decide) (by decide) rfl (by decide) ?_
      refine hg_iload3 d_O_fearOf_136 ?_
      refine hg_iconst (v := 1) d_O_fearOf_137 (by decide) ?_
      refine hg_ishl d_O_fearOf_138 ?_
      refine hg_iload9 d_O_fearOf_139 ?_
      refine hg_iload8 d_O_fearOf_141 ?_
      refine hg_icmp_le (tgt := 150) d_O_fearOf_143 (by decide) (fun h_5 => ?_) (fun h_5 => ?_)
      · refine hg_iconst (v := 0) d_O_fearOf_150 (by decide) ?_
        refine hg_ior d_O_fearOf_151 ?_
        refine hg_istore3 d_O_fearOf_152 rfl ?_
        refine hg_goto (tgt := 207) d_O_fearOf_153 (by decide) ?_
        refine hg_iinc6 (v := nI (i + 1)) d_O_fearOf_207 rfl (nI_add _ _) ?_
        refine hg_goto (tgt := 18) d_O_fearOf_210 (by decide) ?_
        refine ih (i + 1) (q.1, (q.2 <<< (1 &&& 31)) ||| 0) _ _ _ rfl rfl rfl (by omega) ?_
        rw [← hq]; show _ = (hc_ev (I 20 t) (I 6 s) (hc_st (I 6 s) q (I 20 t i)) (i + 1) k).1
        congr 2
        simp only [hc_st, ejx, ej, nI_clamp (show jx < 2 ^ 31 by omega)]
        first | (simp [nI, *]; done) | (simp [nI, ← Int32.not_le, *]; done) | (simp [nI]; rw [if_pos (by assumption)]) | (simp [nI]; rw [if_neg (by assumption)]; simp)
      · refine hg_iconst (v := 1) d_O_fearOf_146 (by decide) ?_
        refine hg_goto (tgt := 151) d_O_fearOf_147 (by decide) ?_
        refine hg_ior d_O_fearOf_151 ?_
        refine hg_istore3 d_O_fearOf_152 rfl ?_
        refine hg_goto (tgt := 207) d_O_fearOf_153 (by decide) ?_
        refine hg_iinc6 (v := nI (i + 1)) d_O_fearOf_207 rfl (nI_add _ _) ?_
        refine hg_goto (tgt := 18) d_O_fearOf_210 (by decide) ?_
        refine ih (i + 1) (q.1, (q.2 <<< (1 &&& 31)) ||| 1) _ _ _ rfl rfl rfl (by omega) ?_
        rw [← hq]; show _ = (hc_ev (I 20 t) (I 6 s) (hc_st (I 6 s) q (I 20 t i)) (i + 1) k).1
        congr 2
        simp only [hc_st, ejx, ej, nI_clamp (show jx < 2 ^ 31 by omega)]
        first | (simp [nI, *]; done) | (simp [nI, ← Int32.not_le, *]; done) | (simp [nI]; rw [if_pos (by assumption)]) | (simp [nI]; rw [if_neg (by assumption)]; simp)
    · refine hg_tabI (off := 101) (tgt := 156) d_O_fearOf_55 (by decide) (by decide) rfl (by decide) ?_
      refine hg_iload3 d_O_fearOf_156 ?_
      refine hg_iconst (v := 1) d_O_fearOf_157 (by decide) ?_
      refine hg_ixor d_O_fearOf_158 ?_
      refine hg_istore3 d_O_fearOf_159 rfl ?_
      refine hg_goto (tgt := 207) d_O_fearOf_160 (by decide) ?_
      refine hg_iinc6 (v := nI (i + 1)) d_O_fearOf_207 rfl (nI_add _ _) ?_
      refine hg_goto (tgt := 18) d_O_fearOf_210 (by decide) ?_
      refine ih (i + 1) (q.1, q.2 ^^^ 1) _ _ _ rfl rfl rfl (by omega) ?_
      rw [← hq]; show _ = (hc_ev (I 20 t) (I 6 s) (hc_st (I 6 s) q (I 20 t i)) (i + 1) k).1
      congr 2
      simp only [hc_st, ejx, ej, nI_clamp (show jx < 2 ^ 31 by omega)]
      first | (simp [nI, *]; done) | (simp [nI, ← Int32.not_le, *]; done) | (simp [nI]; rw [if_pos (by assumption)]) | (simp [nI]; rw [if_neg (by assumption)]; simp)
    · refine hg_tabI (off := 108) (tgt := 163) d_O_fearOf_55 (by decide) (by decide) rfl (by decide) ?_
      refine hg_iload3 d_O_fearOf_163 ?_
      refine hg_iconst (v := 1) d_O_fearOf_164 (by decide) ?_
      refine hg_ishr d_O_fearOf_165 ?_
      refine hg_iload3 d_O_fearOf_166 ?_
      refine hg_bipush (v := (-2)) d_O_fearOf_167 (by decide) ?_
      refine hg_ior d_O_fearOf_169 ?_
      refine hg_iand d_O_fearOf_170 ?_
      refine hg_istore3 d_O_fearOf_171 rfl ?_
      refine hg_goto (tgt := 207) d_O_fearOf_172 (by decide) ?_
      refine hg_iinc6 (v := nI (i + 1)) d_O_fearOf_207 rfl (nI_add _ _) ?_
      refine hg_goto (tgt := 18) d_O_fearOf_210 (by decide) ?_
      refine ih (i + 1) (q.1, (q.2 >>> (1 &&& 31)) &&& (q.2 ||| (-2))) _ _ _ rfl rfl rfl (by omega) ?_
      rw [← hq]; show _ = (hc_ev (I 20 t) (I 6 s) (hc_st (I 6 s) q (I 20 t i)) (i + 1) k).1
      congr 2
      simp only [hc_st, ejx, ej, nI_clamp (show jx < 2 ^ 31 by omega)]
      first | (simp [nI, *]; done) | (simp [nI, ← Int32.not_le, *]; done) | (simp [nI]; rw [if_pos (by assumption)]) | (simp [nI]; rw [if_neg (by assumption)]; simp)
    · refine hg_tabI (off := 120) (tgt := 175) d_O_fearOf_55 (by decide) (by decide) rfl (by decide) ?_
      refine hg_iload3 d_O_fearOf_175 ?_
      refine hg_iconst (v := 1) d_O_fearOf_176 (by decide) ?_
      refine hg_ishr d_O_fearOf_177 ?_
      refine hg_iload3 d_O_fearOf_178 ?_
      refine hg_iconst (v := 1) d_O_fearOf_179 (by decide) ?_
      refine hg_iand d_O_fearOf_180 ?_
      refine hg_ior d_O_fearOf_181 ?_
      refine hg_istore3 d_O_fearOf_182 rfl ?_
      refine hg_goto (tgt := 207) d_O_fearOf_183 (by decide) ?_
      refine hg_iinc6 (v := nI (i + 1)) d_O_fearOf_207 rfl (nI_add _ _) ?_
      refine hg_goto (tgt := 18) d_O_fearOf_210 (by decide) ?_
      refine ih (i + 1) (q.1, (q.2 >>> (1 &&& 31)) ||| (q.2 &&& 1)) _ _ _ rfl rfl rfl (by omega) ?_
      rw [← hq]; show _ = (hc_ev (I 20 t) (I 6 s) (hc_st (I 6 s) q (I 20 t i)) (i + 1) k).1
      congr 2
      simp only [hc_st, ejx, ej, nI_clamp (show jx < 2 ^ 31 by omega)]
      first | (simp [nI, *]; done) | (simp [nI, ← Int32.not_le, *]; done) | (simp [nI]; rw [if_pos (by assumption)]) | (simp [nI]; rw [if_neg (by assumption)]; simp)
    · refine hg_tabI (off := 131) (tgt := 186) d_O_fearOf_55 (by decide) (by decide) rfl (by decide) ?_
      refine hg_iload2 d_O_fearOf_186 ?_
      refine hg_iload3 d_O_fearOf_187 ?_
      refine hg_iload8 d_O_fearOf_188 ?_
      refine hg_imul d_O_fearOf_190 ?_
      refine hg_iadd d_O_fearOf_191 ?_
      refine hg_istore2 d_O_fearOf_192 rfl ?_
      refine hg_iconst (v := 0) d_O_fearOf_193 (by decide) ?_
      refine hg_istore3 d_O_fearOf_194 rfl ?_
      refine hg_goto (tgt := 207) d_O_fearOf_195 (by decide) ?_
      refine hg_iinc6 (v := nI (i + 1)) d_O_fearOf_207 rfl (nI_add _ _) ?_
      refine hg_goto (tgt := 18) d_O_fearOf_210 (by decide) ?_
      refine ih (i + 1) (q.1 + (q.2 * ((I 20 t i) >>> (6 &&& 31))), 0) _ _ _ rfl rfl rfl (by omega) ?_
      rw [← hq]; show _ = (hc_ev (I 20 t) (I 6 s) (hc_st (I 6 s) q (I 20 t i)) (i + 1) k).1
      congr 2
      simp only [hc_st, ejx, ej, nI_clamp (show jx < 2 ^ 31 by omega)]
      first | (simp [nI, *]; done) | (simp [nI, ← Int32.not_le, *]; done) | (simp [nI]; rw [if_pos (by assumption)]) | (simp [nI]; rw [if_neg (by assumption)]; simp)
    · refine hg_tabO (tgt := 198) d_O_fearOf_55 (by decide) (by decide) ?_
      refine hg_iload2 d_O_fearOf_198 ?_
      refine hg_iload3 d_O_fearOf_199 ?_
      refine hg_iload8 d_O_fearOf_200 ?_
      refine hg_imul d_O_fearOf_202 ?_
      refine hg_isub d_O_fearOf_203 ?_
      refine hg_istore2 d_O_fearOf_204 rfl ?_
      refine hg_iconst (v := 0) d_O_fearOf_205 (by decide) ?_
      refine hg_istore3 d_O_fearOf_206 rfl ?_
      refine hg_iinc6 (v := nI (i + 1)) d_O_fearOf_207 rfl (nI_add _ _) ?_
      refine hg_goto (tgt := 18) d_O_fearOf_210 (by decide) ?_
      refine ih (i + 1) (q.1 - (q.2 * ((I 20 t i) >>> (6 &&& 31))), 0) _ _ _ rfl rfl rfl (by omega) ?_
      rw [← hq]; show _ = (hc_ev (I 20 t) (I 6 s) (hc_st (I 6 s) q (I 20 t i)) (i + 1) k).1
      congr 2
      simp only [hc_st, ejx, ej, nI_clamp (show jx < 2 ^ 31 by omega)]
      first | (simp [nI, *]; done) | (simp [nI, ← Int32.not_le, *]; done) | (simp [nI]; rw [if_pos (by assumption)]) | (simp [nI]; rw [if_neg (by assumption)]; simp)
theorem m_O_fearOf {t s : Nat} (hX : hg_XS T X) (hR : hg_SR T Rf) (ht : t ≤ T) (hs : s < 3) (hl : X.2.2 20 t ≤ 100) : hg_MC l E (d + 1) Y_O_fearOf 0 0 [.ref (hg_ad E 19 t), .ref (hg_ad E 6 s)] (I, Lg, Rf, X) (hg_i (fun v M' => v = hc_fear (I 20 t) (X.2.2 20 t) (I 6 s) ∧ M' = (I, Lg, Rf, X))) := by
  refine hg_mc k_O_fearOf (Nat.le_of_ble_eq_true rfl) ?_
  show hg_WP l E _ Y_O_fearOf 0 0 0 [some (.ref (hg_ad E 19 t)), some (.ref (hg_ad E 6 s)), none, none, none, none, none, none, none, none] [] (I, Lg, Rf, X) _
  refine hg_iconst (v := 0) d_O_fearOf_0 (by decide) ?_
  refine hg_istore2 d_O_fearOf_1 rfl ?_
  refine hg_iconst (v := 0) d_O_fearOf_2 (by decide) ?_
  refine hg_istore3 d_O_fearOf_3 rfl ?_
  refine hg_aload0 d_O_fearOf_4 ?_
  refine hg_getR d_O_fearOf_5 f_O_7 rfl rfl (hX.tw ht) (hR.o0 ht) ?_
  refine hg_astore4 d_O_fearOf_8 rfl ?_
  refine hg_aload4 d_O_fearOf_10 ?_
  refine hg_alen d_O_fearOf_12 rfl (hX.ts ht) ?_
  refine hg_eq1 (y := nI (X.2.2 20 t)) (rfl) ?_
  refine hg_istore5 d_O_fearOf_13 rfl ?_
  refine hg_iconst (v := 0) d_O_fearOf_15 (by decide) ?_
  refine hg_istore6 d_O_fearOf_16 rfl ?_
  exact m_O_fearOf_loop hX hR ht hs hl _ 0 (0, 0) none none none rfl rfl rfl (Nat.zero_add _) rfl

theorem m_S_dread {tw : hs_W} {σ : hs_S} {s h : Nat} (hX : hg_XS T X) (hR : hg_SR T Rf) (hs : s < 3) (hC : hs_C s σ I Rf) (hO : hs_ok T σ) (hW : hc_TW T tw I X) (hh : h < hs_n σ) (hw : hs_wk σ < 2 ^ 31) : hg_MC l E (d + 2) Y_S_dread 0 0 [.ref (hg_ad E 1 s), .int (nI h)] (I, Lg, Rf, X) (hg_i (fun v M' => ∃ I' : Nat → Nat → Nat → Int32, v = hs_d tw σ h ∧ M' = (I', Lg, Rf, X) ∧ ∀ k, k ≠ 6 → I' k = I k)) := by
  have hn6 := hO.1
  refine hg_mc k_S_dread (Nat.le_of_ble_eq_true rfl) ?_
  show hg_WP l E _ Y_S_dread 0 0 0 [some (.ref (hg_ad E 1 s)), some (.int (nI h)), none, none, none, none] [] (I, Lg, Rf, X) _
  refine hg_aload0 d_S_dread_0 ?_
  refine hg_getR d_S_dread_1 f_S_11 rfl rfl (hX.lt (n := 3) ⟨by decide, by decide⟩ rfl (by omega)) (hR.s0 (by omega)) ?_
  refine hg_iload1 d_S_dread_4 ?_
  refine hg_aald_n (j := h) d_S_dread_5 rfl (by decide) (hX.lt (n := 3) ⟨by decide, by decide⟩ rfl (by omega)) (hX.jn (n := 6) (by decide) rfl (by omega)) (hR.ha (by omega) (by omega)) ?_
  refine hg_astore2 d_S_dread_6 rfl ?_
  refine hg_aload0 d_S_dread_7 ?_
  refine hg_getR d_S_dread_8 f_S_21 rfl rfl (hX.lt (n := 3) ⟨by decide, by decide⟩ rfl (by omega)) (hR.s8 (by omega)) ?_
  refine hg_iconst (v := 0) d_S_dread_11 (by decide) ?_
  refine hg_iload1 d_S_dread_12 ?_
  refine hg_iast_n (j := 0) d_S_dread_13 rfl rfl (hX.lt (n := 3) ⟨by decide, by decide⟩ rfl (by omega)) (hX.jn (n := 8) (by decide) rfl (by omega)) ?_
  refine hg_aload0 d_S_dread_14 ?_
  refine hg_getR d_S_dread_15 f_S_21 rfl rfl (hX.lt (n := 3) ⟨by decide, by decide⟩ rfl (by omega)) (hR.s8 (by omega)) ?_
  refine hg_iconst (v := 1) d_S_dread_18 (by decide) ?_
  refine hg_aload2 d_S_dread_19 ?_
  refine hg_getI d_S_dread_20 f_S_61 rfl rfl (hX.lt (n := 18) ⟨by decide, by decide⟩ rfl (by omega)) ?_
  refine hg_eq1 (y := I 3 (6 * s + h) 0) (by simp [hg_u3]) ?_
  refine hg_eq1 (y := hs_hv σ h 0) (hC.2.2.2.2.2.2.1 h 0 hh (by decide)) ?_
  refine hg_iast_n (j := 1) d_S_dread_23 rfl rfl (hX.lt (n := 3) ⟨by decide, by decide⟩ rfl (by omega)) (hX.jn (n := 8) (by decide) rfl (by omega)) ?_
  refine hg_aload0 d_S_dread_24 ?_
  refine hg_getR d_S_dread_25 f_S_21 rfl rfl (hX.lt (n := 3) ⟨by decide, by decide⟩ rfl (by omega)) (hR.s8 (by omega)) ?_
  refine hg_iconst (v := 2) d_S_dread_28 (by decide) ?_
  refine hg_aload2 d_S_dread_29 ?_
  refine hg_getI d_S_dread_30 f_S_64 rfl rfl (hX.lt (n := 18) ⟨by decide, by decide⟩ rfl (by omega)) ?_
  refine hg_eq1 (y := I 3 (6 * s + h) 1) (by simp [hg_u3]) ?_
  refine hg_eq1 (y := hs_hv σ h 1) (hC.2.2.2.2.2.2.1 h 1 hh (by decide)) ?_
  refine hg_iast_n (j := 2) d_S_dread_33 rfl rfl (hX.lt (n := 3) ⟨by decide, by decide⟩ rfl (by omega)) (hX.jn (n := 8) (by decide) rfl (by omega)) ?_
  refine hg_aload0 d_S_dread_34 ?_
  refine hg_getR d_S_dread_35 f_S_21 rfl rfl (hX.lt (n := 3) ⟨by decide, by decide⟩ rfl (by omega)) (hR.s8 (by omega)) ?_
  refine hg_iconst (v := 3) d_S_dread_38 (by decide) ?_
  refine hg_aload2 d_S_dread_39 ?_
  refine hg_getI d_S_dread_40 f_S_67 rfl rfl (hX.lt (n := 18) ⟨by decide, by decide⟩ rfl (by omega)) ?_
  refine hg_eq1 (y := I 3 (6 * s + h) 3) (by simp [hg_u3]) ?_
  refine hg_eq1 (y := hs_hv σ h 3) (hC.2.2.2.2.2.2.1 h 3 hh (by decide)) ?_
  refine hg_iast_n (j := 3) d_S_dread_43 rfl rfl (hX.lt (n := 3) ⟨by decide, by decide⟩ rfl (by omega)) (hX.jn (n := 8) (by decide) rfl (by omega)) ?_
  refine hg_aload0 d_S_dread_44 ?_
  refine hg_getR d_S_dread_45 f_S_21 rfl rfl (hX.lt (n := 3) ⟨by decide, by decide⟩ rfl (by omega)) (hR.s8 (by omega)) ?_
  refine hg_iconst (v := 4) d_S_dread_48 (by decide) ?_
  refine hg_aload2 d_S_dread_49 ?_
  refine hg_getI d_S_dread_50 f_S_70 rfl rfl (hX.lt (n := 18) ⟨by decide, by decide⟩ rfl (by omega)) ?_
  refine hg_eq1 (y := I 3 (6 * s + h) 4) (by simp [hg_u3]) ?_
  refine hg_eq1 (y := hs_hv σ h 4) (hC.2.2.2.2.2.2.1 h 4 hh (by decide)) ?_
  refine hg_bipush (v := 10) d_S_dread_53 (by decide) ?_
  refine hg_irem d_S_dread_55 (by decide) ?_
  refine hg_iast_n (j := 4) d_S_dread_56 rfl rfl (hX.lt (n := 3) ⟨by decide, by decide⟩ rfl (by omega)) (hX.jn (n := 8) (by decide) rfl (by omega)) ?_
  refine hg_aload0 d_S_dread_57 ?_
  refine hg_getR d_S_dread_58 f_S_21 rfl rfl (hX.lt (n := 3) ⟨by decide, by decide⟩ rfl (by omega)) (hR.s8 (by omega)) ?_
  refine hg_iconst (v := 5) d_S_dread_61 (by decide) ?_
  refine hg_aload0 d_S_dread_62 ?_
  refine hg_getI d_S_dread_63 f_S_42 rfl rfl (hX.lt (n := 3) ⟨by decide, by decide⟩ rfl (by omega)) ?_
  refine hg_eq1 (y := I 1 s 6) (by simp [hg_u3]) ?_
  refine hg_eq1 (y := nI (hs_wk σ)) (hC.2.2.2.2.1) ?_
  refine hg_bipush (v := 10) d_S_dread_66 (by decide) ?_
  refine hg_irem d_S_dread_68 (by decide) ?_
  refine hg_iast_n (j := 5) d_S_dread_69 rfl rfl (hX.lt (n := 3) ⟨by decide, by decide⟩ rfl (by omega)) (hX.jn (n := 8) (by decide) rfl (by omega)) ?_
  refine hg_aload2 d_S_dread_70 ?_
  refine hg_getI d_S_dread_71 f_S_73 rfl rfl (hX.lt (n := 18) ⟨by decide, by decide⟩ rfl (by omega)) ?_
  refine hg_eq1 (y := I 3 (6 * s + h) 2) (by simp [hg_u3]) ?_
  refine hg_eq1 (y := hs_hv σ h 2) (hC.2.2.2.2.2.2.1 h 2 hh (by decide)) ?_
  refine hg_aload0 d_S_dread_74 ?_
  refine hg_getR d_S_dread_75 f_S_24 rfl rfl (hX.lt (n := 3) ⟨by decide, by decide⟩ rfl (by omega)) hC.2.2.2.2.2.2.2.2 ?_
  refine hg_aload0 d_S_dread_78 ?_
  refine hg_getR d_S_dread_79 f_S_21 rfl rfl (hX.lt (n := 3) ⟨by decide, by decide⟩ rfl (by omega)) (hR.s8 (by omega)) ?_
  have hWt := hW (hs_tn σ) hO.2.2.2.2.2.2.2
  refine hg_cVi d_S_dread_82 l_S_76 rfl rfl (hX.tw hO.2.2.2.2.2.2.2) rfl (Nat.le_of_ble_eq_true rfl) (m_O_fearOf hX hR hO.2.2.2.2.2.2.2 hs hWt.2.1) rfl ?_
  rintro _ _ ⟨rfl, rfl⟩
  have ef : hc_fear ((hg_u3 (hg_u3 (hg_u3 (hg_u3 (hg_u3 (hg_u3 I 6 s 0 (nI h)) 6 s 1 (hs_hv σ h 0)) 6 s 2 (hs_hv σ h 1)) 6 s 3 (hs_hv σ h 3)) 6 s 4 ((hs_hv σ h 4) - (hs_hv σ h 4) / 10 * 10)) 6 s 5 ((nI (hs_wk σ)) - (nI (hs_wk σ)) / 10 * 10)) 20 (hs_tn σ)) (X.2.2 20 (hs_tn σ)) ((hg_u3 (hg_u3 (hg_u3 (hg_u3 (hg_u3 (hg_u3 I 6 s 0 (nI h)) 6 s 1 (hs_hv σ h 0)) 6 s 2 (hs_hv σ h 1)) 6 s 3 (hs_hv σ h 3)) 6 s 4 ((hs_hv σ h 4) - (hs_hv σ h 4) / 10 * 10)) 6 s 5 ((nI (hs_wk σ)) - (nI (hs_wk σ)) / 10 * 10)) 6 s) = (tw (hs_tn σ)).1 (hs_f σ h) := by
    refine (hWt.2.2 _ (hs_f σ h) (fun j hj => ?_))
    have hj6 : j = 0 ∨ j = 1 ∨ j = 2 ∨ j = 3 ∨ j = 4 ∨ j = 5 := by omega
    rcases hj6 with rfl | rfl | rfl | rfl | rfl | rfl <;> simp [hg_u3, hs_f, hs_m10]
  refine hg_eq1 (y := (tw (hs_tn σ)).1 (hs_f σ h)) (ef) ?_
  generalize hI1 : (hg_u3 (hg_u3 (hg_u3 (hg_u3 (hg_u3 (hg_u3 I 6 s 0 (nI h)) 6 s 1 (hs_hv σ h 0)) 6 s 2 (hs_hv σ h 1)) 6 s 3 (hs_hv σ h 3)) 6 s 4 ((hs_hv σ h 4) - (hs_hv σ h 4) / 10 * 10)) 6 s 5 ((nI (hs_wk σ)) - (nI (hs_wk σ)) / 10 * 10)) = I1
  have hk : ∀ k, k ≠ 6 → I1 k = I k := fun k hk => by rw [← hI1]; funext i j; simp [hg_u3, hk]
  refine hg_iadd d_S_dread_85 ?_
  refine hg_eq1 (y := hs_sum tw σ h) (rfl) ?_
  refine hg_istore3 d_S_dread_86 rfl ?_
  refine hg_aload0 d_S_dread_87 ?_
  refine hg_getI d_S_dread_88 f_S_42 rfl rfl (hX.lt (n := 3) ⟨by decide, by decide⟩ rfl (by omega)) ?_
  refine hg_eq1 (y := nI (hs_wk σ)) ((congrFun (congrFun (hk 1 (by decide)) _) _).trans (hC.2.2.2.2.1)) ?_
  refine hg_iconst (v := 4) d_S_dread_91 (by decide) ?_
  refine hg_irem d_S_dread_92 (by decide) ?_
  refine hg_iconst (v := 2) d_S_dread_93 (by decide) ?_
  have K_1 : ∀ r : Int32, r = hs_rich σ h → hg_WP l E (d + 1) Y_S_dread 0 0 105 [some (.ref (hg_ad E 1 s)), some (.int (nI h)), some (.ref (hg_ad E 3 (6 * s + h))), some (.int (hs_sum tw σ h)), none, none] [.int r] (I1, Lg, Rf, X) (hg_i (fun v M' => ∃ I' : Nat → Nat → Nat → Int32, v = hs_d tw σ h ∧ M' = (I', Lg, Rf, X) ∧ ∀ k, k ≠ 6 → I' k = I k)) := by
    intro r hr
    subst hr
    refine hg_istore4 d_S_dread_105 rfl ?_
    refine hg_bipush (v := 30) d_S_dread_107 (by decide) ?_
    refine hg_iconst (v := 3) d_S_dread_109 (by decide) ?_
    refine hg_aload2 d_S_dread_110 ?_
    refine hg_getI d_S_dread_111 f_S_70 rfl rfl (hX.lt (n := 18) ⟨by decide, by decide⟩ rfl (by omega)) ?_
    refine hg_eq1 (y := hs_hv σ h 4) ((congrFun (congrFun (hk 3 (by decide)) _) _).trans (hC.2.2.2.2.2.2.1 h 4 hh (by decide))) ?_
    refine hg_imul d_S_dread_114 ?_
    refine hg_min d_S_dread_115 l_S_82 (Nat.le_of_ble_eq_true rfl) ?_
    refine hg_eq1 (y := hs_used σ h) (rfl) ?_
    refine hg_istore5 d_S_dread_118 rfl ?_
    refine hg_aload2 d_S_dread_120 ?_
    refine hg_getI d_S_dread_121 f_S_61 rfl rfl (hX.lt (n := 18) ⟨by decide, by decide⟩ rfl (by omega)) ?_
    refine hg_eq1 (y := hs_hv σ h 0) ((congrFun (congrFun (hk 3 (by decide)) _) _).trans (hC.2.2.2.2.2.2.1 h 0 hh (by decide))) ?_
    obtain ⟨kk, hkk, ekk⟩ := (hO.2.2.2.2.1 h hh).1
    refine hg_eq1 (y := nI kk) ekk ?_
    have h7 : kk = 0 ∨ kk = 1 ∨ kk = 2 ∨ kk = 3 ∨ kk = 4 ∨ kk = 5 ∨ kk = 6 := by omega
    rcases h7 with rfl | rfl | rfl | rfl | rfl | rfl | rfl
    · refine hg_tabO (tgt := 222) d_S_dread_124 (by decide) (by decide) ?_
      refine hg_iload3 d_S_dread_222 ?_
      refine hg_ireturn d_S_dread_223 rfl rfl ?_
      refine ⟨I1, ?_, rfl, hk⟩
      simp [hs_d, ekk, nI, *]
    · refine hg_tabI (off := 40) (tgt := 164) d_S_dread_124 (by decide) (by decide) rfl (by decide) ?_
      refine hg_iload3 d_S_dread_164 ?_
      refine hg_iload4 d_S_dread_165 ?_
      refine hg_iadd d_S_dread_167 ?_
      refine hg_ireturn d_S_dread_168 rfl rfl ?_
      refine ⟨I1, ?_, rfl, hk⟩
      simp [hs_d, ekk, nI, *]
    · refine hg_tabI (off := 45) (tgt := 169) d_S_dread_124 (by decide) (by decide) rfl (by decide) ?_
      refine hg_iload3 d_S_dread_169 ?_
      refine hg_iconst (v := 2) d_S_dread_170 (by decide) ?_
      refine hg_idiv d_S_dread_171 (by decide) ?_
      refine hg_ireturn d_S_dread_172 rfl rfl ?_
      refine ⟨I1, ?_, rfl, hk⟩
      simp [hs_d, ekk, nI, *]
    · refine hg_tabI (off := 49) (tgt := 173) d_S_dread_124 (by decide) (by decide) rfl (by decide) ?_
      refine hg_iload3 d_S_dread_173 ?_
      refine hg_iload5 d_S_dread_174 ?_
      refine hg_isub d_S_dread_176 ?_
      refine hg_ireturn d_S_dread_177 rfl rfl ?_
      refine ⟨I1, ?_, rfl, hk⟩
      simp [hs_d, ekk, nI, *]
    · refine hg_tabI (off := 54) (tgt := 178) d_S_dread_124 (by decide) (by decide) rfl (by decide) ?_
      refine hg_iload3 d_S_dread_178 ?_
      refine hg_iload4 d_S_dread_179 ?_
      refine hg_iadd d_S_dread_181 ?_
      refine hg_aload2 d_S_dread_182 ?_
      refine hg_getI d_S_dread_183 f_S_70 rfl rfl (hX.lt (n := 18) ⟨by decide, by decide⟩ rfl (by omega)) ?_
      refine hg_eq1 (y := hs_hv σ h 4) ((congrFun (congrFun (hk 3 (by decide)) _) _).trans (hC.2.2.2.2.2.2.1 h 4 hh (by decide))) ?_
      refine hg_if_ne (tgt := 193) d_S_dread_186 (by decide) (fun h_2 => ?_) (fun h_2 => ?_)
      · refine hg_iconst (v := 1) d_S_dread_193 (by decide) ?_
        refine hg_imul d_S_dread_194 ?_
        refine hg_ireturn d_S_dread_195 rfl rfl ?_
        refine ⟨I1, ?_, rfl, hk⟩
        simp [hs_d, ekk, nI, *]
      · replace h_2 := Decidable.not_not.mp h_2
        refine hg_iconst (v := 2) d_S_dread_189 (by decide) ?_
        refine hg_goto (tgt := 194) d_S_dread_190 (by decide) ?_
        refine hg_imul d_S_dread_194 ?_
        refine hg_ireturn d_S_dread_195 rfl rfl ?_
        refine ⟨I1, ?_, rfl, hk⟩
        simp [hs_d, ekk, nI, *]
    · refine hg_tabI (off := 72) (tgt := 196) d_S_dread_124 (by decide) (by decide) rfl (by decide) ?_
      refine hg_iload3 d_S_dread_196 ?_
      refine hg_iconst (v := 2) d_S_dread_197 (by decide) ?_
      refine hg_idiv d_S_dread_198 (by decide) ?_
      refine hg_aload2 d_S_dread_199 ?_
      refine hg_getI d_S_dread_200 f_S_67 rfl rfl (hX.lt (n := 18) ⟨by decide, by decide⟩ rfl (by omega)) ?_
      refine hg_eq1 (y := hs_hv σ h 3) ((congrFun (congrFun (hk 3 (by decide)) _) _).trans (hC.2.2.2.2.2.2.1 h 3 hh (by decide))) ?_
      refine hg_iadd d_S_dread_203 ?_
      refine hg_ireturn d_S_dread_204 rfl rfl ?_
      refine ⟨I1, ?_, rfl, hk⟩
      simp [hs_d, ekk, nI, *]
    · refine hg_tabI (off := 81) (tgt := 205) d_S_dread_124 (by decide) (by decide) rfl (by decide) ?_
      refine hg_iload3 d_S_dread_205 ?_
      refine hg_iload5 d_S_dread_206 ?_
      refine hg_isub d_S_dread_208 ?_
      refine hg_aload2 d_S_dread_209 ?_
      refine hg_getR d_S_dread_210 f_S_88 rfl rfl (hX.lt (n := 18) ⟨by decide, by decide⟩ rfl (by omega)) (hR.h7 (by omega)) ?_
      refine hg_aload0 d_S_dread_213 ?_
      refine hg_getI d_S_dread_214 f_S_42 rfl rfl (hX.lt (n := 3) ⟨by decide, by decide⟩ rfl (by omega)) ?_
      refine hg_eq1 (y := nI (hs_wk σ)) ((congrFun (congrFun (hk 1 (by decide)) _) _).trans (hC.2.2.2.2.1)) ?_
      refine hg_iconst (v := 3) d_S_dread_217 (by decide) ?_
      refine hg_iand d_S_dread_218 ?_
      refine hg_eq1 (y := nI (hs_wk σ % 4)) (pk_andN (by omega) (m := 3) 2 (by decide)) ?_
      refine hg_iald_n (j := (hs_wk σ % 4)) d_S_dread_219 rfl rfl (hX.lt (n := 18) ⟨by decide, by decide⟩ rfl (by omega)) (hX.jn (n := 4) (by decide) rfl (by omega)) ?_
      refine hg_eq1 (y := hs_rw σ h (hs_wk σ % 4)) ((congrFun (congrFun (hk 4 (by decide)) _) _).trans (hC.2.2.2.2.2.2.2.1 h _ hh (by omega))) ?_
      refine hg_iadd d_S_dread_220 ?_
      refine hg_ireturn d_S_dread_221 rfl rfl ?_
      refine ⟨I1, ?_, rfl, hk⟩
      simp [hs_d, ekk, nI, *]
  refine hg_icmp_ne (tgt := 104) d_S_dread_94 (by decide) (fun h_3 => ?_) (fun h_3 => ?_)
  · refine hg_iconst (v := 0) d_S_dread_104 (by decide) ?_
    exact K_1 _ (by unfold hs_rich; first | rw [if_pos (by assumption)] | rw [if_neg (by assumption)])
  · replace h_3 := Decidable.not_not.mp h_3
    refine hg_aload2 d_S_dread_97 ?_
    refine hg_getI d_S_dread_98 f_S_64 rfl rfl (hX.lt (n := 18) ⟨by decide, by decide⟩ rfl (by omega)) ?_
    refine hg_eq1 (y := hs_hv σ h 1) ((congrFun (congrFun (hk 3 (by decide)) _) _).trans (hC.2.2.2.2.2.2.1 h 1 hh (by decide))) ?_
    refine hg_goto (tgt := 105) d_S_dread_101 (by decide) ?_
    exact K_1 _ (by unfold hs_rich; first | rw [if_pos (by assumption)] | rw [if_neg (by assumption)])

end M2
