/-! the model: keep, again -/
def hk_P (n1 n2 n3 n4 n5 : Nat) (A : Nat → Int32) (I : Nat → Nat → Nat → Int32) : Prop := (∀ q, q < n1 → A q = I 22 0 q ∧ A (6 + q) = I 22 1 q ∧ A (12 + q) = I 22 2 q ∧ A (18 + q) = I 22 3 q ∧ A (24 + q) = I 22 4 q ∧ A (30 + q) = I 22 5 q ∧ A (36 + q) = I 22 6 q ∧ A (42 + q) = I 22 8 q) ∧ (∀ q, q < n2 → A (48 + q) = I 22 7 q) ∧ (∀ q, q < n3 → A (72 + q) = I 22 16 q ∧ A (77 + q) = I 22 17 q) ∧ (∀ q, q < n4 → A (82 + q) = I 22 18 q ∧ A (92 + q) = I 22 19 q) ∧ (∀ q, q < n5 → A (102 + q) = I 22 20 q ∧ A (110 + q) = I 22 21 q)
def hk_F (A : Nat → Int32) (I : Nat → Nat → Nat → Int32) : Prop := A 118 = I 21 0 0 ∧ A 119 = I 21 0 10 ∧ A 120 = I 21 0 11 ∧ A 121 = I 21 0 12 ∧ A 122 = I 21 0 13 ∧ A 123 = I 21 0 30 ∧ A 124 = I 21 0 33 ∧ A 125 = I 21 0 36 ∧ A 126 = I 21 0 21
theorem hg_u3r {α : Type} {f : Nat → Nat → Nat → α} {k i j y : Nat} {x : α} : hg_u3 f k i j x k i y = if y = j then x else f k i y := by
  unfold hg_u3; by_cases h : y = j
  · rw [if_pos ⟨rfl, rfl, h⟩, if_pos h]
  · rw [if_neg (fun z => h z.2.2), if_neg h]
/-- one row changed -/
def hk_r (r : Nat) (I' I : Nat → Nat → Nat → Int32) : Prop := ∀ k q, ¬ (k = 22 ∧ q = r) → I' k q = I k q
/-- what again lays back changed -/
def hm_k (I' I : Nat → Nat → Nat → Int32) : Prop := (∀ q, q ≠ 21 → q ≠ 22 → I' q = I q) ∧ (∀ j, ¬ (j = 0 ∨ (10 ≤ j ∧ j ≤ 13) ∨ j = 21 ∨ j = 30 ∨ j = 33 ∨ j = 36) → I' 21 0 j = I 21 0 j) ∧ ∀ r, ¬ (r ≤ 8 ∨ (16 ≤ r ∧ r ≤ 21)) → I' 22 r = I 22 r
section M32
variable {l : Launch} {E : hg_E} {d T : Nat}
variable {I : Nat → Nat → Nat → Int32} {Lg : Nat → Nat → Nat → Int64} {Rf : Nat → Nat → Nat → Option (Nat × Nat)} {X : Nat × (Nat → Nat) × (Nat → Nat → Nat)}
variable {I' I1 : Nat → Nat → Nat → Int32}
theorem hk_r.rf {r : Nat} : hk_r r I I := fun _ _ _ => rfl
theorem hk_r.u {r j : Nat} {x : Int32} (h : hk_r r I' I) : hk_r r (hg_u3 I' 22 r j x) I := fun k q hn => by rw [← h k q hn]; funext z; exact hg_u3k hn
theorem hm_k.rf : hm_k I I := ⟨fun _ _ _ => rfl, fun _ _ => rfl, fun _ _ => rfl⟩
theorem hm_k.u21 (h : hm_k I' I) {j : Nat} {x : Int32} (hj : j = 0 ∨ (10 ≤ j ∧ j ≤ 13) ∨ j = 21 ∨ j = 30 ∨ j = 33 ∨ j = 36) : hm_k (hg_u3 I' 21 0 j x) I := ⟨fun q a b => by rw [← h.1 q a b]; funext y z; exact hg_u3k (fun v => a v.1), fun k hk => by rw [← h.2.1 k hk]; unfold hg_u3; rw [if_neg (fun v => hk (by rw [v.2.2]; exact hj))], fun r hr => by rw [← h.2.2 r hr]; funext z; exact hg_u3k (by omega)⟩
theorem hm_k.u22 (h : hm_k I' I) {r j : Nat} {x : Int32} (hr : r ≤ 8 ∨ (16 ≤ r ∧ r ≤ 21)) : hm_k (hg_u3 I' 22 r j x) I := ⟨fun q a b => by rw [← h.1 q a b]; funext y z; exact hg_u3k (fun v => b v.1), fun k hk => by rw [← h.2.1 k hk]; exact hg_u3k (by omega), fun r2 hr2 => by rw [← h.2.2 r2 hr2]; funext z; exact hg_u3k (fun v => hr2 (by rw [v.2]; exact hr))⟩
theorem m_M_keep23_6 (hX : hg_XS T X) (hR : hg_SR T Rf) {a2 : Option Value} (hq : hk_r 23 I1 I) (hP : hk_P 6 24 5 10 8 (I1 22 23) I1) : hg_WP l E (d) Y_M_keep 0 0 246 [some (.ref (hg_ad E 21 0)), some (.ref (hg_ad E 22 23)), a2] [] (I1, Lg, Rf, X) (hg_v (fun M' => ∃ I' : Nat → Nat → Nat → Int32, M' = (I', Lg, Rf, X) ∧ hk_r 23 I' I ∧ hk_P 6 24 5 10 8 (I' 22 23) I' ∧ hk_F (I' 22 23) I')) := by
  refine hg_aload1 d_M_keep_246 ?_
  refine hg_bipush (v := 118) d_M_keep_247 (by decide) ?_
  refine hg_aload0 d_M_keep_249 ?_
  refine hg_getI d_M_keep_250 f_M_108 rfl rfl (hX.lt (n := 1) ⟨by decide, by decide⟩ rfl (by omega)) ?_
  refine hg_iast_n (j := 118) d_M_keep_253 rfl rfl (hX.lt (n := 28) ⟨by decide, by decide⟩ rfl (by omega)) (hX.jn (n := 128) (by decide) rfl (by omega)) ?_
  refine hg_aload1 d_M_keep_254 ?_
  refine hg_bipush (v := 119) d_M_keep_255 (by decide) ?_
  refine hg_aload0 d_M_keep_257 ?_
  refine hg_getI d_M_keep_258 f_M_236 rfl rfl (hX.lt (n := 1) ⟨by decide, by decide⟩ rfl (by omega)) ?_
  refine hg_eq1 (y := I1 21 0 10) (by simp [hg_u3]) ?_
  refine hg_iast_n (j := 119) d_M_keep_261 rfl rfl (hX.lt (n := 28) ⟨by decide, by decide⟩ rfl (by omega)) (hX.jn (n := 128) (by decide) rfl (by omega)) ?_
  refine hg_aload1 d_M_keep_262 ?_
  refine hg_bipush (v := 120) d_M_keep_263 (by decide) ?_
  refine hg_aload0 d_M_keep_265 ?_
  refine hg_getI d_M_keep_266 f_M_248 rfl rfl (hX.lt (n := 1) ⟨by decide, by decide⟩ rfl (by omega)) ?_
  refine hg_eq1 (y := I1 21 0 11) (by simp [hg_u3]) ?_
  refine hg_iast_n (j := 120) d_M_keep_269 rfl rfl (hX.lt (n := 28) ⟨by decide, by decide⟩ rfl (by omega)) (hX.jn (n := 128) (by decide) rfl (by omega)) ?_
  refine hg_aload1 d_M_keep_270 ?_
  refine hg_bipush (v := 121) d_M_keep_271 (by decide) ?_
  refine hg_aload0 d_M_keep_273 ?_
  refine hg_getI d_M_keep_274 f_M_251 rfl rfl (hX.lt (n := 1) ⟨by decide, by decide⟩ rfl (by omega)) ?_
  refine hg_eq1 (y := I1 21 0 12) (by simp [hg_u3]) ?_
  refine hg_iast_n (j := 121) d_M_keep_277 rfl rfl (hX.lt (n := 28) ⟨by decide, by decide⟩ rfl (by omega)) (hX.jn (n := 128) (by decide) rfl (by omega)) ?_
  refine hg_aload1 d_M_keep_278 ?_
  refine hg_bipush (v := 122) d_M_keep_279 (by decide) ?_
  refine hg_aload0 d_M_keep_281 ?_
  refine hg_getI d_M_keep_282 f_M_214 rfl rfl (hX.lt (n := 1) ⟨by decide, by decide⟩ rfl (by omega)) ?_
  refine hg_eq1 (y := I1 21 0 13) (by simp [hg_u3]) ?_
  refine hg_iast_n (j := 122) d_M_keep_285 rfl rfl (hX.lt (n := 28) ⟨by decide, by decide⟩ rfl (by omega)) (hX.jn (n := 128) (by decide) rfl (by omega)) ?_
  refine hg_aload1 d_M_keep_286 ?_
  refine hg_bipush (v := 123) d_M_keep_287 (by decide) ?_
  refine hg_aload0 d_M_keep_289 ?_
  refine hg_getI d_M_keep_290 f_M_282 rfl rfl (hX.lt (n := 1) ⟨by decide, by decide⟩ rfl (by omega)) ?_
  refine hg_eq1 (y := I1 21 0 30) (by simp [hg_u3]) ?_
  refine hg_iast_n (j := 123) d_M_keep_293 rfl rfl (hX.lt (n := 28) ⟨by decide, by decide⟩ rfl (by omega)) (hX.jn (n := 128) (by decide) rfl (by omega)) ?_
  refine hg_aload1 d_M_keep_294 ?_
  refine hg_bipush (v := 124) d_M_keep_295 (by decide) ?_
  refine hg_aload0 d_M_keep_297 ?_
  refine hg_getI d_M_keep_298 f_M_294 rfl rfl (hX.lt (n := 1) ⟨by decide, by decide⟩ rfl (by omega)) ?_
  refine hg_eq1 (y := I1 21 0 33) (by simp [hg_u3]) ?_
  refine hg_iast_n (j := 124) d_M_keep_301 rfl rfl (hX.lt (n := 28) ⟨by decide, by decide⟩ rfl (by omega)) (hX.jn (n := 128) (by decide) rfl (by omega)) ?_
  refine hg_aload1 d_M_keep_302 ?_
  refine hg_bipush (v := 125) d_M_keep_303 (by decide) ?_
  refine hg_aload0 d_M_keep_305 ?_
  refine hg_getI d_M_keep_306 f_M_297 rfl rfl (hX.lt (n := 1) ⟨by decide, by decide⟩ rfl (by omega)) ?_
  refine hg_eq1 (y := I1 21 0 36) (by simp [hg_u3]) ?_
  refine hg_iast_n (j := 125) d_M_keep_309 rfl rfl (hX.lt (n := 28) ⟨by decide, by decide⟩ rfl (by omega)) (hX.jn (n := 128) (by decide) rfl (by omega)) ?_
  refine hg_aload1 d_M_keep_310 ?_
  refine hg_bipush (v := 126) d_M_keep_311 (by decide) ?_
  refine hg_aload0 d_M_keep_313 ?_
  refine hg_getI d_M_keep_314 f_M_104 rfl rfl (hX.lt (n := 1) ⟨by decide, by decide⟩ rfl (by omega)) ?_
  refine hg_eq1 (y := I1 21 0 21) (by simp [hg_u3]) ?_
  refine hg_iast_n (j := 126) d_M_keep_317 rfl rfl (hX.lt (n := 28) ⟨by decide, by decide⟩ rfl (by omega)) (hX.jn (n := 128) (by decide) rfl (by omega)) ?_
  obtain ⟨h1, h2, h3, h4, h5⟩ := hP
  refine hg_return d_M_keep_318 rfl ?_
  refine ⟨_, rfl, (((((((((hq.u).u).u).u).u).u).u).u).u), ⟨?_, ?_, ?_, ?_, ?_⟩, ⟨?_, ?_, ?_, ?_, ?_, ?_, ?_, ?_, ?_⟩⟩
  · intro q hq
    refine ⟨?_, ?_, ?_, ?_, ?_, ?_, ?_, ?_⟩
    · (repeat (first | rw [hg_u3k (by decide)] | (rw [hg_u3r]; first | rw [if_pos (by omega)] | rw [if_neg (by omega)]))); exact (h1 q hq).1
    · (repeat (first | rw [hg_u3k (by decide)] | (rw [hg_u3r]; first | rw [if_pos (by omega)] | rw [if_neg (by omega)]))); exact (h1 q hq).2.1
    · (repeat (first | rw [hg_u3k (by decide)] | (rw [hg_u3r]; first | rw [if_pos (by omega)] | rw [if_neg (by omega)]))); exact (h1 q hq).2.2.1
    · (repeat (first | rw [hg_u3k (by decide)] | (rw [hg_u3r]; first | rw [if_pos (by omega)] | rw [if_neg (by omega)]))); exact (h1 q hq).2.2.2.1
    · (repeat (first | rw [hg_u3k (by decide)] | (rw [hg_u3r]; first | rw [if_pos (by omega)] | rw [if_neg (by omega)]))); exact (h1 q hq).2.2.2.2.1
    · (repeat (first | rw [hg_u3k (by decide)] | (rw [hg_u3r]; first | rw [if_pos (by omega)] | rw [if_neg (by omega)]))); exact (h1 q hq).2.2.2.2.2.1
    · (repeat (first | rw [hg_u3k (by decide)] | (rw [hg_u3r]; first | rw [if_pos (by omega)] | rw [if_neg (by omega)]))); exact (h1 q hq).2.2.2.2.2.2.1
    · (repeat (first | rw [hg_u3k (by decide)] | (rw [hg_u3r]; first | rw [if_pos (by omega)] | rw [if_neg (by omega)]))); exact (h1 q hq).2.2.2.2.2.2.2
  · intro q hq
    (repeat (first | rw [hg_u3k (by decide)] | (rw [hg_u3r]; first | rw [if_pos (by omega)] | rw [if_neg (by omega)]))); exact (h2 q hq)
  · intro q hq
    refine ⟨?_, ?_⟩
    · (repeat (first | rw [hg_u3k (by decide)] | (rw [hg_u3r]; first | rw [if_pos (by omega)] | rw [if_neg (by omega)]))); exact (h3 q hq).1
    · (repeat (first | rw [hg_u3k (by decide)] | (rw [hg_u3r]; first | rw [if_pos (by omega)] | rw [if_neg (by omega)]))); exact (h3 q hq).2
  · intro q hq
    refine ⟨?_, ?_⟩
    · (repeat (first | rw [hg_u3k (by decide)] | (rw [hg_u3r]; first | rw [if_pos (by omega)] | rw [if_neg (by omega)]))); exact (h4 q hq).1
    · (repeat (first | rw [hg_u3k (by decide)] | (rw [hg_u3r]; first | rw [if_pos (by omega)] | rw [if_neg (by omega)]))); exact (h4 q hq).2
  · intro q hq
    refine ⟨?_, ?_⟩
    · (repeat (first | rw [hg_u3k (by decide)] | (rw [hg_u3r]; first | rw [if_pos (by omega)] | rw [if_neg (by omega)]))); exact (h5 q hq).1
    · (repeat (first | rw [hg_u3k (by decide)] | (rw [hg_u3r]; first | rw [if_pos (by omega)] | rw [if_neg (by omega)]))); exact (h5 q hq).2
  · ((repeat (first | rw [hg_u3k (by decide)] | (rw [hg_u3r]; first | rw [if_pos (by omega)] | rw [if_neg (by omega)]))))
  · ((repeat (first | rw [hg_u3k (by decide)] | (rw [hg_u3r]; first | rw [if_pos (by omega)] | rw [if_neg (by omega)]))))
  · ((repeat (first | rw [hg_u3k (by decide)] | (rw [hg_u3r]; first | rw [if_pos (by omega)] | rw [if_neg (by omega)]))))
  · ((repeat (first | rw [hg_u3k (by decide)] | (rw [hg_u3r]; first | rw [if_pos (by omega)] | rw [if_neg (by omega)]))))
  · ((repeat (first | rw [hg_u3k (by decide)] | (rw [hg_u3r]; first | rw [if_pos (by omega)] | rw [if_neg (by omega)]))))
  · ((repeat (first | rw [hg_u3k (by decide)] | (rw [hg_u3r]; first | rw [if_pos (by omega)] | rw [if_neg (by omega)]))))
  · ((repeat (first | rw [hg_u3k (by decide)] | (rw [hg_u3r]; first | rw [if_pos (by omega)] | rw [if_neg (by omega)]))))
  · ((repeat (first | rw [hg_u3k (by decide)] | (rw [hg_u3r]; first | rw [if_pos (by omega)] | rw [if_neg (by omega)]))))
  · ((repeat (first | rw [hg_u3k (by decide)] | (rw [hg_u3r]; first | rw [if_pos (by omega)] | rw [if_neg (by omega)]))))
theorem m_M_keep23_5 (hX : hg_XS T X) (hR : hg_SR T Rf) : ∀ (k i : Nat) (I1 : Nat → Nat → Nat → Int32), i + k = 8 → hk_r 23 I1 I → hk_P 6 24 5 10 i (I1 22 23) I1 → hg_WP l E (d) Y_M_keep 0 0 210 [some (.ref (hg_ad E 21 0)), some (.ref (hg_ad E 22 23)), some (.int (nI i))] [] (I1, Lg, Rf, X) (hg_v (fun M' => ∃ I' : Nat → Nat → Nat → Int32, M' = (I', Lg, Rf, X) ∧ hk_r 23 I' I ∧ hk_P 6 24 5 10 8 (I' 22 23) I' ∧ hk_F (I' 22 23) I')) := by
  intro k
  induction k with
  | zero =>
    intro i I1 hik hq hP
    obtain rfl : i = 8 := by omega
    refine hg_iload2 d_M_keep_210 ?_
    refine hg_bipush (v := 8) d_M_keep_211 (by decide) ?_
    refine hg_icmp_ge (tgt := 246) d_M_keep_213 (by decide) (fun h_1 => ?_) (fun h_1 => absurd (by decide) h_1)
    exact m_M_keep23_6 hX hR hq hP
  | succ k ih =>
    intro i I1 hik hq hP
    obtain ⟨h1, h2, h3, h4, h5⟩ := hP
    refine hg_iload2 d_M_keep_210 ?_
    refine hg_bipush (v := 8) d_M_keep_211 (by decide) ?_
    refine hg_icmp_ge (tgt := 246) d_M_keep_213 (by decide) (fun h_2 => absurd h_2 (nI_ge (a := i) (b := 8) (by omega) (by decide))) (fun h_2 => ?_)
    refine hg_aload1 d_M_keep_216 ?_
    refine hg_bipush (v := 102) d_M_keep_217 (by decide) ?_
    refine hg_iload2 d_M_keep_219 ?_
    refine hg_iadd d_M_keep_220 ?_
    refine hg_eq1 (y := nI (102 + i)) (nI_add _ _) ?_
    refine hg_aload0 d_M_keep_221 ?_
    refine hg_getR d_M_keep_222 f_M_76 rfl rfl (hX.lt (n := 1) ⟨by decide, by decide⟩ rfl (by omega)) (hR.m (j := 37) (q := (22, 20)) rfl) ?_
    refine hg_iload2 d_M_keep_225 ?_
    refine hg_iald_n (j := i) d_M_keep_226 rfl rfl (hX.lt (n := 28) ⟨by decide, by decide⟩ rfl (by omega)) (hX.jn (n := 8) (by decide) rfl (by omega)) ?_
    refine hg_iast_n (j := (102 + i)) d_M_keep_227 rfl rfl (hX.lt (n := 28) ⟨by decide, by decide⟩ rfl (by omega)) (hX.jn (n := 128) (by decide) rfl (by omega)) ?_
    refine hg_aload1 d_M_keep_228 ?_
    refine hg_bipush (v := 110) d_M_keep_229 (by decide) ?_
    refine hg_iload2 d_M_keep_231 ?_
    refine hg_iadd d_M_keep_232 ?_
    refine hg_eq1 (y := nI (110 + i)) (nI_add _ _) ?_
    refine hg_aload0 d_M_keep_233 ?_
    refine hg_getR d_M_keep_234 f_M_79 rfl rfl (hX.lt (n := 1) ⟨by decide, by decide⟩ rfl (by omega)) (hR.m (j := 38) (q := (22, 21)) rfl) ?_
    refine hg_iload2 d_M_keep_237 ?_
    refine hg_iald_n (j := i) d_M_keep_238 rfl rfl (hX.lt (n := 28) ⟨by decide, by decide⟩ rfl (by omega)) (hX.jn (n := 8) (by decide) rfl (by omega)) ?_
    refine hg_eq1 (y := I1 22 21 i) (by simp [hg_u3]) ?_
    refine hg_iast_n (j := (110 + i)) d_M_keep_239 rfl rfl (hX.lt (n := 28) ⟨by decide, by decide⟩ rfl (by omega)) (hX.jn (n := 128) (by decide) rfl (by omega)) ?_
    refine hg_iinc2 (v := nI (i + 1)) d_M_keep_240 rfl (nI_add _ _) ?_
    refine hg_goto (tgt := 210) d_M_keep_243 (by decide) ?_
    refine ih (i + 1) _ (by omega) ((hq.u).u) ⟨?_, ?_, ?_, ?_, ?_⟩
    · intro q hq
      refine ⟨?_, ?_, ?_, ?_, ?_, ?_, ?_, ?_⟩
      · (repeat (first | rw [hg_u3k (by decide)] | (rw [hg_u3r]; first | rw [if_pos (by omega)] | rw [if_neg (by omega)]))); exact (h1 q hq).1
      · (repeat (first | rw [hg_u3k (by decide)] | (rw [hg_u3r]; first | rw [if_pos (by omega)] | rw [if_neg (by omega)]))); exact (h1 q hq).2.1
      · (repeat (first | rw [hg_u3k (by decide)] | (rw [hg_u3r]; first | rw [if_pos (by omega)] | rw [if_neg (by omega)]))); exact (h1 q hq).2.2.1
      · (repeat (first | rw [hg_u3k (by decide)] | (rw [hg_u3r]; first | rw [if_pos (by omega)] | rw [if_neg (by omega)]))); exact (h1 q hq).2.2.2.1
      · (repeat (first | rw [hg_u3k (by decide)] | (rw [hg_u3r]; first | rw [if_pos (by omega)] | rw [if_neg (by omega)]))); exact (h1 q hq).2.2.2.2.1
      · (repeat (first | rw [hg_u3k (by decide)] | (rw [hg_u3r]; first | rw [if_pos (by omega)] | rw [if_neg (by omega)]))); exact (h1 q hq).2.2.2.2.2.1
      · (repeat (first | rw [hg_u3k (by decide)] | (rw [hg_u3r]; first | rw [if_pos (by omega)] | rw [if_neg (by omega)]))); exact (h1 q hq).2.2.2.2.2.2.1
      · (repeat (first | rw [hg_u3k (by decide)] | (rw [hg_u3r]; first | rw [if_pos (by omega)] | rw [if_neg (by omega)]))); exact (h1 q hq).2.2.2.2.2.2.2
    · intro q hq
      (repeat (first | rw [hg_u3k (by decide)] | (rw [hg_u3r]; first | rw [if_pos (by omega)] | rw [if_neg (by omega)]))); exact (h2 q hq)
    · intro q hq
      refine ⟨?_, ?_⟩
      · (repeat (first | rw [hg_u3k (by decide)] | (rw [hg_u3r]; first | rw [if_pos (by omega)] | rw [if_neg (by omega)]))); exact (h3 q hq).1
      · (repeat (first | rw [hg_u3k (by decide)] | (rw [hg_u3r]; first | rw [if_pos (by omega)] | rw [if_neg (by omega)]))); exact (h3 q hq).2
    · intro q hq
      refine ⟨?_, ?_⟩
      · (repeat (first | rw [hg_u3k (by decide)] | (rw [hg_u3r]; first | rw [if_pos (by omega)] | rw [if_neg (by omega)]))); exact (h4 q hq).1
      · (repeat (first | rw [hg_u3k (by decide)] | (rw [hg_u3r]; first | rw [if_pos (by omega)] | rw [if_neg (by omega)]))); exact (h4 q hq).2
    · intro q hq
      by_cases e : q = i
      · subst e; clear h1 h2 h3 h4 h5
        refine ⟨?_, ?_⟩
        · ((repeat (first | rw [hg_u3k (by decide)] | (rw [hg_u3r]; first | rw [if_pos (by omega)] | rw [if_neg (by omega)]))))
        · ((repeat (first | rw [hg_u3k (by decide)] | (rw [hg_u3r]; first | rw [if_pos (by omega)] | rw [if_neg (by omega)]))))
      · have hq : q < i := by omega
        refine ⟨?_, ?_⟩
        · ((repeat (first | rw [hg_u3k (by decide)] | (rw [hg_u3r]; first | rw [if_pos (by omega)] | rw [if_neg (by omega)])))); exact (h5 q hq).1
        · ((repeat (first | rw [hg_u3k (by decide)] | (rw [hg_u3r]; first | rw [if_pos (by omega)] | rw [if_neg (by omega)])))); exact (h5 q hq).2
theorem m_M_keep23_4 (hX : hg_XS T X) (hR : hg_SR T Rf) : ∀ (k i : Nat) (I1 : Nat → Nat → Nat → Int32), i + k = 10 → hk_r 23 I1 I → hk_P 6 24 5 i 0 (I1 22 23) I1 → hg_WP l E (d) Y_M_keep 0 0 172 [some (.ref (hg_ad E 21 0)), some (.ref (hg_ad E 22 23)), some (.int (nI i))] [] (I1, Lg, Rf, X) (hg_v (fun M' => ∃ I' : Nat → Nat → Nat → Int32, M' = (I', Lg, Rf, X) ∧ hk_r 23 I' I ∧ hk_P 6 24 5 10 8 (I' 22 23) I' ∧ hk_F (I' 22 23) I')) := by
  intro k
  induction k with
  | zero =>
    intro i I1 hik hq hP
    obtain rfl : i = 10 := by omega
    refine hg_iload2 d_M_keep_172 ?_
    refine hg_bipush (v := 10) d_M_keep_173 (by decide) ?_
    refine hg_icmp_ge (tgt := 208) d_M_keep_175 (by decide) (fun h_1 => ?_) (fun h_1 => absurd (by decide) h_1)
    refine hg_iconst (v := 0) d_M_keep_208 (by decide) ?_
    refine hg_istore2 d_M_keep_209 rfl ?_
    exact m_M_keep23_5 hX hR 8 0 I1 (by omega) hq hP
  | succ k ih =>
    intro i I1 hik hq hP
    obtain ⟨h1, h2, h3, h4, h5⟩ := hP
    refine hg_iload2 d_M_keep_172 ?_
    refine hg_bipush (v := 10) d_M_keep_173 (by decide) ?_
    refine hg_icmp_ge (tgt := 208) d_M_keep_175 (by decide) (fun h_2 => absurd h_2 (nI_ge (a := i) (b := 10) (by omega) (by decide))) (fun h_2 => ?_)
    refine hg_aload1 d_M_keep_178 ?_
    refine hg_bipush (v := 82) d_M_keep_179 (by decide) ?_
    refine hg_iload2 d_M_keep_181 ?_
    refine hg_iadd d_M_keep_182 ?_
    refine hg_eq1 (y := nI (82 + i)) (nI_add _ _) ?_
    refine hg_aload0 d_M_keep_183 ?_
    refine hg_getR d_M_keep_184 f_M_70 rfl rfl (hX.lt (n := 1) ⟨by decide, by decide⟩ rfl (by omega)) (hR.m (j := 34) (q := (22, 18)) rfl) ?_
    refine hg_iload2 d_M_keep_187 ?_
    refine hg_iald_n (j := i) d_M_keep_188 rfl rfl (hX.lt (n := 28) ⟨by decide, by decide⟩ rfl (by omega)) (hX.jn (n := 10) (by decide) rfl (by omega)) ?_
    refine hg_iast_n (j := (82 + i)) d_M_keep_189 rfl rfl (hX.lt (n := 28) ⟨by decide, by decide⟩ rfl (by omega)) (hX.jn (n := 128) (by decide) rfl (by omega)) ?_
    refine hg_aload1 d_M_keep_190 ?_
    refine hg_bipush (v := 92) d_M_keep_191 (by decide) ?_
    refine hg_iload2 d_M_keep_193 ?_
    refine hg_iadd d_M_keep_194 ?_
    refine hg_eq1 (y := nI (92 + i)) (nI_add _ _) ?_
    refine hg_aload0 d_M_keep_195 ?_
    refine hg_getR d_M_keep_196 f_M_73 rfl rfl (hX.lt (n := 1) ⟨by decide, by decide⟩ rfl (by omega)) (hR.m (j := 35) (q := (22, 19)) rfl) ?_
    refine hg_iload2 d_M_keep_199 ?_
    refine hg_iald_n (j := i) d_M_keep_200 rfl rfl (hX.lt (n := 28) ⟨by decide, by decide⟩ rfl (by omega)) (hX.jn (n := 10) (by decide) rfl (by omega)) ?_
    refine hg_eq1 (y := I1 22 19 i) (by simp [hg_u3]) ?_
    refine hg_iast_n (j := (92 + i)) d_M_keep_201 rfl rfl (hX.lt (n := 28) ⟨by decide, by decide⟩ rfl (by omega)) (hX.jn (n := 128) (by decide) rfl (by omega)) ?_
    refine hg_iinc2 (v := nI (i + 1)) d_M_keep_202 rfl (nI_add _ _) ?_
    refine hg_goto (tgt := 172) d_M_keep_205 (by decide) ?_
    refine ih (i + 1) _ (by omega) ((hq.u).u) ⟨?_, ?_, ?_, ?_, ?_⟩
    · intro q hq
      refine ⟨?_, ?_, ?_, ?_, ?_, ?_, ?_, ?_⟩
      · (repeat (first | rw [hg_u3k (by decide)] | (rw [hg_u3r]; first | rw [if_pos (by omega)] | rw [if_neg (by omega)]))); exact (h1 q hq).1
      · (repeat (first | rw [hg_u3k (by decide)] | (rw [hg_u3r]; first | rw [if_pos (by omega)] | rw [if_neg (by omega)]))); exact (h1 q hq).2.1
      · (repeat (first | rw [hg_u3k (by decide)] | (rw [hg_u3r]; first | rw [if_pos (by omega)] | rw [if_neg (by omega)]))); exact (h1 q hq).2.2.1
      · (repeat (first | rw [hg_u3k (by decide)] | (rw [hg_u3r]; first | rw [if_pos (by omega)] | rw [if_neg (by omega)]))); exact (h1 q hq).2.2.2.1
      · (repeat (first | rw [hg_u3k (by decide)] | (rw [hg_u3r]; first | rw [if_pos (by omega)] | rw [if_neg (by omega)]))); exact (h1 q hq).2.2.2.2.1
      · (repeat (first | rw [hg_u3k (by decide)] | (rw [hg_u3r]; first | rw [if_pos (by omega)] | rw [if_neg (by omega)]))); exact (h1 q hq).2.2.2.2.2.1
      · (repeat (first | rw [hg_u3k (by decide)] | (rw [hg_u3r]; first | rw [if_pos (by omega)] | rw [if_neg (by omega)]))); exact (h1 q hq).2.2.2.2.2.2.1
      · (repeat (first | rw [hg_u3k (by decide)] | (rw [hg_u3r]; first | rw [if_pos (by omega)] | rw [if_neg (by omega)]))); exact (h1 q hq).2.2.2.2.2.2.2
    · intro q hq
      (repeat (first | rw [hg_u3k (by decide)] | (rw [hg_u3r]; first | rw [if_pos (by omega)] | rw [if_neg (by omega)]))); exact (h2 q hq)
    · intro q hq
      refine ⟨?_, ?_⟩
      · (repeat (first | rw [hg_u3k (by decide)] | (rw [hg_u3r]; first | rw [if_pos (by omega)] | rw [if_neg (by omega)]))); exact (h3 q hq).1
      · (repeat (first | rw [hg_u3k (by decide)] | (rw [hg_u3r]; first | rw [if_pos (by omega)] | rw [if_neg (by omega)]))); exact (h3 q hq).2
    · intro q hq
      by_cases e : q = i
      · subst e; clear h1 h2 h3 h4 h5
        refine ⟨?_, ?_⟩
        · ((repeat (first | rw [hg_u3k (by decide)] | (rw [hg_u3r]; first | rw [if_pos (by omega)] | rw [if_neg (by omega)]))))
        · ((repeat (first | rw [hg_u3k (by decide)] | (rw [hg_u3r]; first | rw [if_pos (by omega)] | rw [if_neg (by omega)]))))
      · have hq : q < i := by omega
        refine ⟨?_, ?_⟩
        · ((repeat (first | rw [hg_u3k (by decide)] | (rw [hg_u3r]; first | rw [if_pos (by omega)] | rw [if_neg (by omega)])))); exact (h4 q hq).1
        · ((repeat (first | rw [hg_u3k (by decide)] | (rw [hg_u3r]; first | rw [if_pos (by omega)] | rw [if_neg (by omega)])))); exact (h4 q hq).2
    · exact fun q hq => absurd hq (Nat.not_lt_zero _)
theorem m_M_keep23_3 (hX : hg_XS T X) (hR : hg_SR T Rf) : ∀ (k i : Nat) (I1 : Nat → Nat → Nat → Int32), i + k = 5 → hk_r 23 I1 I → hk_P 6 24 i 0 0 (I1 22 23) I1 → hg_WP l E (d) Y_M_keep 0 0 135 [some (.ref (hg_ad E 21 0)), some (.ref (hg_ad E 22 23)), some (.int (nI i))] [] (I1, Lg, Rf, X) (hg_v (fun M' => ∃ I' : Nat → Nat → Nat → Int32, M' = (I', Lg, Rf, X) ∧ hk_r 23 I' I ∧ hk_P 6 24 5 10 8 (I' 22 23) I' ∧ hk_F (I' 22 23) I')) := by
  intro k
  induction k with
  | zero =>
    intro i I1 hik hq hP
    obtain rfl : i = 5 := by omega
    refine hg_iload2 d_M_keep_135 ?_
    refine hg_iconst (v := 5) d_M_keep_136 (by decide) ?_
    refine hg_icmp_ge (tgt := 170) d_M_keep_137 (by decide) (fun h_1 => ?_) (fun h_1 => absurd (by decide) h_1)
    refine hg_iconst (v := 0) d_M_keep_170 (by decide) ?_
    refine hg_istore2 d_M_keep_171 rfl ?_
    exact m_M_keep23_4 hX hR 10 0 I1 (by omega) hq hP
  | succ k ih =>
    intro i I1 hik hq hP
    obtain ⟨h1, h2, h3, h4, h5⟩ := hP
    refine hg_iload2 d_M_keep_135 ?_
    refine hg_iconst (v := 5) d_M_keep_136 (by decide) ?_
    refine hg_icmp_ge (tgt := 170) d_M_keep_137 (by decide) (fun h_2 => absurd h_2 (nI_ge (a := i) (b := 5) (by omega) (by decide))) (fun h_2 => ?_)
    refine hg_aload1 d_M_keep_140 ?_
    refine hg_bipush (v := 72) d_M_keep_141 (by decide) ?_
    refine hg_iload2 d_M_keep_143 ?_
    refine hg_iadd d_M_keep_144 ?_
    refine hg_eq1 (y := nI (72 + i)) (nI_add _ _) ?_
    refine hg_aload0 d_M_keep_145 ?_
    refine hg_getR d_M_keep_146 f_M_64 rfl rfl (hX.lt (n := 1) ⟨by decide, by decide⟩ rfl (by omega)) (hR.m (j := 31) (q := (22, 16)) rfl) ?_
    refine hg_iload2 d_M_keep_149 ?_
    refine hg_iald_n (j := i) d_M_keep_150 rfl rfl (hX.lt (n := 28) ⟨by decide, by decide⟩ rfl (by omega)) (hX.jn (n := 5) (by decide) rfl (by omega)) ?_
    refine hg_iast_n (j := (72 + i)) d_M_keep_151 rfl rfl (hX.lt (n := 28) ⟨by decide, by decide⟩ rfl (by omega)) (hX.jn (n := 128) (by decide) rfl (by omega)) ?_
    refine hg_aload1 d_M_keep_152 ?_
    refine hg_bipush (v := 77) d_M_keep_153 (by decide) ?_
    refine hg_iload2 d_M_keep_155 ?_
    refine hg_iadd d_M_keep_156 ?_
    refine hg_eq1 (y := nI (77 + i)) (nI_add _ _) ?_
    refine hg_aload0 d_M_keep_157 ?_
    refine hg_getR d_M_keep_158 f_M_67 rfl rfl (hX.lt (n := 1) ⟨by decide, by decide⟩ rfl (by omega)) (hR.m (j := 32) (q := (22, 17)) rfl) ?_
    refine hg_iload2 d_M_keep_161 ?_
    refine hg_iald_n (j := i) d_M_keep_162 rfl rfl (hX.lt (n := 28) ⟨by decide, by decide⟩ rfl (by omega)) (hX.jn (n := 5) (by decide) rfl (by omega)) ?_
    refine hg_eq1 (y := I1 22 17 i) (by simp [hg_u3]) ?_
    refine hg_iast_n (j := (77 + i)) d_M_keep_163 rfl rfl (hX.lt (n := 28) ⟨by decide, by decide⟩ rfl (by omega)) (hX.jn (n := 128) (by decide) rfl (by omega)) ?_
    refine hg_iinc2 (v := nI (i + 1)) d_M_keep_164 rfl (nI_add _ _) ?_
    refine hg_goto (tgt := 135) d_M_keep_167 (by decide) ?_
    refine ih (i + 1) _ (by omega) ((hq.u).u) ⟨?_, ?_, ?_, ?_, ?_⟩
    · intro q hq
      refine ⟨?_, ?_, ?_, ?_, ?_, ?_, ?_, ?_⟩
      · (repeat (first | rw [hg_u3k (by decide)] | (rw [hg_u3r]; first | rw [if_pos (by omega)] | rw [if_neg (by omega)]))); exact (h1 q hq).1
      · (repeat (first | rw [hg_u3k (by decide)] | (rw [hg_u3r]; first | rw [if_pos (by omega)] | rw [if_neg (by omega)]))); exact (h1 q hq).2.1
      · (repeat (first | rw [hg_u3k (by decide)] | (rw [hg_u3r]; first | rw [if_pos (by omega)] | rw [if_neg (by omega)]))); exact (h1 q hq).2.2.1
      · (repeat (first | rw [hg_u3k (by decide)] | (rw [hg_u3r]; first | rw [if_pos (by omega)] | rw [if_neg (by omega)]))); exact (h1 q hq).2.2.2.1
      · (repeat (first | rw [hg_u3k (by decide)] | (rw [hg_u3r]; first | rw [if_pos (by omega)] | rw [if_neg (by omega)]))); exact (h1 q hq).2.2.2.2.1
      · (repeat (first | rw [hg_u3k (by decide)] | (rw [hg_u3r]; first | rw [if_pos (by omega)] | rw [if_neg (by omega)]))); exact (h1 q hq).2.2.2.2.2.1
      · (repeat (first | rw [hg_u3k (by decide)] | (rw [hg_u3r]; first | rw [if_pos (by omega)] | rw [if_neg (by omega)]))); exact (h1 q hq).2.2.2.2.2.2.1
      · (repeat (first | rw [hg_u3k (by decide)] | (rw [hg_u3r]; first | rw [if_pos (by omega)] | rw [if_neg (by omega)]))); exact (h1 q hq).2.2.2.2.2.2.2
    · intro q hq
      (repeat (first | rw [hg_u3k (by decide)] | (rw [hg_u3r]; first | rw [if_pos (by omega)] | rw [if_neg (by omega)]))); exact (h2 q hq)
    · intro q hq
      by_cases e : q = i
      · subst e; clear h1 h2 h3 h4 h5
        refine ⟨?_, ?_⟩
        · ((repeat (first | rw [hg_u3k (by decide)] | (rw [hg_u3r]; first | rw [if_pos (by omega)] | rw [if_neg (by omega)]))))
        · ((repeat (first | rw [hg_u3k (by decide)] | (rw [hg_u3r]; first | rw [if_pos (by omega)] | rw [if_neg (by omega)]))))
      · have hq : q < i := by omega
        refine ⟨?_, ?_⟩
        · ((repeat (first | rw [hg_u3k (by decide)] | (rw [hg_u3r]; first | rw [if_pos (by omega)] | rw [if_neg (by omega)])))); exact (h3 q hq).1
        · ((repeat (first | rw [hg_u3k (by decide)] | (rw [hg_u3r]; first | rw [if_pos (by omega)] | rw [if_neg (by omega)])))); exact (h3 q hq).2
    · exact fun q hq => absurd hq (Nat.not_lt_zero _)
    · exact fun q hq => absurd hq (Nat.not_lt_zero _)
theorem m_M_keep23_2 (hX : hg_XS T X) (hR : hg_SR T Rf) : ∀ (k i : Nat) (I1 : Nat → Nat → Nat → Int32), i + k = 24 → hk_r 23 I1 I → hk_P 6 i 0 0 0 (I1 22 23) I1 → hg_WP l E (d) Y_M_keep 0 0 109 [some (.ref (hg_ad E 21 0)), some (.ref (hg_ad E 22 23)), some (.int (nI i))] [] (I1, Lg, Rf, X) (hg_v (fun M' => ∃ I' : Nat → Nat → Nat → Int32, M' = (I', Lg, Rf, X) ∧ hk_r 23 I' I ∧ hk_P 6 24 5 10 8 (I' 22 23) I' ∧ hk_F (I' 22 23) I')) := by
  intro k
  induction k with
  | zero =>
    intro i I1 hik hq hP
    obtain rfl : i = 24 := by omega
    refine hg_iload2 d_M_keep_109 ?_
    refine hg_bipush (v := 24) d_M_keep_110 (by decide) ?_
    refine hg_icmp_ge (tgt := 133) d_M_keep_112 (by decide) (fun h_1 => ?_) (fun h_1 => absurd (by decide) h_1)
    refine hg_iconst (v := 0) d_M_keep_133 (by decide) ?_
    refine hg_istore2 d_M_keep_134 rfl ?_
    exact m_M_keep23_3 hX hR 5 0 I1 (by omega) hq hP
  | succ k ih =>
    intro i I1 hik hq hP
    obtain ⟨h1, h2, h3, h4, h5⟩ := hP
    refine hg_iload2 d_M_keep_109 ?_
    refine hg_bipush (v := 24) d_M_keep_110 (by decide) ?_
    refine hg_icmp_ge (tgt := 133) d_M_keep_112 (by decide) (fun h_2 => absurd h_2 (nI_ge (a := i) (b := 24) (by omega) (by decide))) (fun h_2 => ?_)
    refine hg_aload1 d_M_keep_115 ?_
    refine hg_bipush (v := 48) d_M_keep_116 (by decide) ?_
    refine hg_iload2 d_M_keep_118 ?_
    refine hg_iadd d_M_keep_119 ?_
    refine hg_eq1 (y := nI (48 + i)) (nI_add _ _) ?_
    refine hg_aload0 d_M_keep_120 ?_
    refine hg_getR d_M_keep_121 f_M_33 rfl rfl (hX.lt (n := 1) ⟨by decide, by decide⟩ rfl (by omega)) (hR.m (j := 8) (q := (22, 7)) rfl) ?_
    refine hg_iload2 d_M_keep_124 ?_
    refine hg_iald_n (j := i) d_M_keep_125 rfl rfl (hX.lt (n := 28) ⟨by decide, by decide⟩ rfl (by omega)) (hX.jn (n := 24) (by decide) rfl (by omega)) ?_
    refine hg_iast_n (j := (48 + i)) d_M_keep_126 rfl rfl (hX.lt (n := 28) ⟨by decide, by decide⟩ rfl (by omega)) (hX.jn (n := 128) (by decide) rfl (by omega)) ?_
    refine hg_iinc2 (v := nI (i + 1)) d_M_keep_127 rfl (nI_add _ _) ?_
    refine hg_goto (tgt := 109) d_M_keep_130 (by decide) ?_
    refine ih (i + 1) _ (by omega) (hq.u) ⟨?_, ?_, ?_, ?_, ?_⟩
    · intro q hq
      refine ⟨?_, ?_, ?_, ?_, ?_, ?_, ?_, ?_⟩
      · (repeat (first | rw [hg_u3k (by decide)] | (rw [hg_u3r]; first | rw [if_pos (by omega)] | rw [if_neg (by omega)]))); exact (h1 q hq).1
      · (repeat (first | rw [hg_u3k (by decide)] | (rw [hg_u3r]; first | rw [if_pos (by omega)] | rw [if_neg (by omega)]))); exact (h1 q hq).2.1
      · (repeat (first | rw [hg_u3k (by decide)] | (rw [hg_u3r]; first | rw [if_pos (by omega)] | rw [if_neg (by omega)]))); exact (h1 q hq).2.2.1
      · (repeat (first | rw [hg_u3k (by decide)] | (rw [hg_u3r]; first | rw [if_pos (by omega)] | rw [if_neg (by omega)]))); exact (h1 q hq).2.2.2.1
      · (repeat (first | rw [hg_u3k (by decide)] | (rw [hg_u3r]; first | rw [if_pos (by omega)] | rw [if_neg (by omega)]))); exact (h1 q hq).2.2.2.2.1
      · (repeat (first | rw [hg_u3k (by decide)] | (rw [hg_u3r]; first | rw [if_pos (by omega)] | rw [if_neg (by omega)]))); exact (h1 q hq).2.2.2.2.2.1
      · (repeat (first | rw [hg_u3k (by decide)] | (rw [hg_u3r]; first | rw [if_pos (by omega)] | rw [if_neg (by omega)]))); exact (h1 q hq).2.2.2.2.2.2.1
      · (repeat (first | rw [hg_u3k (by decide)] | (rw [hg_u3r]; first | rw [if_pos (by omega)] | rw [if_neg (by omega)]))); exact (h1 q hq).2.2.2.2.2.2.2
    · intro q hq
      by_cases e : q = i
      · subst e; clear h1 h2 h3 h4 h5
        · ((repeat (first | rw [hg_u3k (by decide)] | (rw [hg_u3r]; first | rw [if_pos (by omega)] | rw [if_neg (by omega)]))))
      · have hq : q < i := by omega
        · ((repeat (first | rw [hg_u3k (by decide)] | (rw [hg_u3r]; first | rw [if_pos (by omega)] | rw [if_neg (by omega)])))); exact (h2 q hq)
    · exact fun q hq => absurd hq (Nat.not_lt_zero _)
    · exact fun q hq => absurd hq (Nat.not_lt_zero _)
    · exact fun q hq => absurd hq (Nat.not_lt_zero _)
theorem m_M_keep23_1 (hX : hg_XS T X) (hR : hg_SR T Rf) : ∀ (k i : Nat) (I1 : Nat → Nat → Nat → Int32), i + k = 6 → hk_r 23 I1 I → hk_P i 0 0 0 0 (I1 22 23) I1 → hg_WP l E (d) Y_M_keep 0 0 2 [some (.ref (hg_ad E 21 0)), some (.ref (hg_ad E 22 23)), some (.int (nI i))] [] (I1, Lg, Rf, X) (hg_v (fun M' => ∃ I' : Nat → Nat → Nat → Int32, M' = (I', Lg, Rf, X) ∧ hk_r 23 I' I ∧ hk_P 6 24 5 10 8 (I' 22 23) I' ∧ hk_F (I' 22 23) I')) := by
  intro k
  induction k with
  | zero =>
    intro i I1 hik hq hP
    obtain rfl : i = 6 := by omega
    refine hg_iload2 d_M_keep_2 ?_
    refine hg_bipush (v := 6) d_M_keep_3 (by decide) ?_
    refine hg_icmp_ge (tgt := 107) d_M_keep_5 (by decide) (fun h_1 => ?_) (fun h_1 => absurd (by decide) h_1)
    refine hg_iconst (v := 0) d_M_keep_107 (by decide) ?_
    refine hg_istore2 d_M_keep_108 rfl ?_
    exact m_M_keep23_2 hX hR 24 0 I1 (by omega) hq hP
  | succ k ih =>
    intro i I1 hik hq hP
    obtain ⟨h1, h2, h3, h4, h5⟩ := hP
    refine hg_iload2 d_M_keep_2 ?_
    refine hg_bipush (v := 6) d_M_keep_3 (by decide) ?_
    refine hg_icmp_ge (tgt := 107) d_M_keep_5 (by decide) (fun h_2 => absurd h_2 (nI_ge (a := i) (b := 6) (by omega) (by decide))) (fun h_2 => ?_)
    refine hg_aload1 d_M_keep_8 ?_
    refine hg_iload2 d_M_keep_9 ?_
    refine hg_aload0 d_M_keep_10 ?_
    refine hg_getR d_M_keep_11 f_M_9 rfl rfl (hX.lt (n := 1) ⟨by decide, by decide⟩ rfl (by omega)) (hR.m (j := 1) (q := (22, 0)) rfl) ?_
    refine hg_iload2 d_M_keep_14 ?_
    refine hg_iald_n (j := i) d_M_keep_15 rfl rfl (hX.lt (n := 28) ⟨by decide, by decide⟩ rfl (by omega)) (hX.jn (n := 6) (by decide) rfl (by omega)) ?_
    refine hg_iast_n (j := i) d_M_keep_16 rfl rfl (hX.lt (n := 28) ⟨by decide, by decide⟩ rfl (by omega)) (hX.jn (n := 128) (by decide) rfl (by omega)) ?_
    refine hg_aload1 d_M_keep_17 ?_
    refine hg_bipush (v := 6) d_M_keep_18 (by decide) ?_
    refine hg_iload2 d_M_keep_20 ?_
    refine hg_iadd d_M_keep_21 ?_
    refine hg_eq1 (y := nI (6 + i)) (nI_add _ _) ?_
    refine hg_aload0 d_M_keep_22 ?_
    refine hg_getR d_M_keep_23 f_M_15 rfl rfl (hX.lt (n := 1) ⟨by decide, by decide⟩ rfl (by omega)) (hR.m (j := 2) (q := (22, 1)) rfl) ?_
    refine hg_iload2 d_M_keep_26 ?_
    refine hg_iald_n (j := i) d_M_keep_27 rfl rfl (hX.lt (n := 28) ⟨by decide, by decide⟩ rfl (by omega)) (hX.jn (n := 6) (by decide) rfl (by omega)) ?_
    refine hg_eq1 (y := I1 22 1 i) (by simp [hg_u3]) ?_
    refine hg_iast_n (j := (6 + i)) d_M_keep_28 rfl rfl (hX.lt (n := 28) ⟨by decide, by decide⟩ rfl (by omega)) (hX.jn (n := 128) (by decide) rfl (by omega)) ?_
    refine hg_aload1 d_M_keep_29 ?_
    refine hg_bipush (v := 12) d_M_keep_30 (by decide) ?_
    refine hg_iload2 d_M_keep_32 ?_
    refine hg_iadd d_M_keep_33 ?_
    refine hg_eq1 (y := nI (12 + i)) (nI_add _ _) ?_
    refine hg_aload0 d_M_keep_34 ?_
    refine hg_getR d_M_keep_35 f_M_18 rfl rfl (hX.lt (n := 1) ⟨by decide, by decide⟩ rfl (by omega)) (hR.m (j := 3) (q := (22, 2)) rfl) ?_
    refine hg_iload2 d_M_keep_38 ?_
    refine hg_iald_n (j := i) d_M_keep_39 rfl rfl (hX.lt (n := 28) ⟨by decide, by decide⟩ rfl (by omega)) (hX.jn (n := 6) (by decide) rfl (by omega)) ?_
    refine hg_eq1 (y := I1 22 2 i) (by simp [hg_u3]) ?_
    refine hg_iast_n (j := (12 + i)) d_M_keep_40 rfl rfl (hX.lt (n := 28) ⟨by decide, by decide⟩ rfl (by omega)) (hX.jn (n := 128) (by decide) rfl (by omega)) ?_
    refine hg_aload1 d_M_keep_41 ?_
    refine hg_bipush (v := 18) d_M_keep_42 (by decide) ?_
    refine hg_iload2 d_M_keep_44 ?_
    refine hg_iadd d_M_keep_45 ?_
    refine hg_eq1 (y := nI (18 + i)) (nI_add _ _) ?_
    refine hg_aload0 d_M_keep_46 ?_
    refine hg_getR d_M_keep_47 f_M_21 rfl rfl (hX.lt (n := 1) ⟨by decide, by decide⟩ rfl (by omega)) (hR.m (j := 4) (q := (22, 3)) rfl) ?_
    refine hg_iload2 d_M_keep_50 ?_
    refine hg_iald_n (j := i) d_M_keep_51 rfl rfl (hX.lt (n := 28) ⟨by decide, by decide⟩ rfl (by omega)) (hX.jn (n := 6) (by decide) rfl (by omega)) ?_
    refine hg_eq1 (y := I1 22 3 i) (by simp [hg_u3]) ?_
    refine hg_iast_n (j := (18 + i)) d_M_keep_52 rfl rfl (hX.lt (n := 28) ⟨by decide, by decide⟩ rfl (by omega)) (hX.jn (n := 128) (by decide) rfl (by omega)) ?_
    refine hg_aload1 d_M_keep_53 ?_
    refine hg_bipush (v := 24) d_M_keep_54 (by decide) ?_
    refine hg_iload2 d_M_keep_56 ?_
    refine hg_iadd d_M_keep_57 ?_
    refine hg_eq1 (y := nI (24 + i)) (nI_add _ _) ?_
    refine hg_aload0 d_M_keep_58 ?_
    refine hg_getR d_M_keep_59 f_M_24 rfl rfl (hX.lt (n := 1) ⟨by decide, by decide⟩ rfl (by omega)) (hR.m (j := 5) (q := (22, 4)) rfl) ?_
    refine hg_iload2 d_M_keep_62 ?_
    refine hg_iald_n (j := i) d_M_keep_63 rfl rfl (hX.lt (n := 28) ⟨by decide, by decide⟩ rfl (by omega)) (hX.jn (n := 6) (by decide) rfl (by omega)) ?_
    refine hg_eq1 (y := I1 22 4 i) (by simp [hg_u3]) ?_
    refine hg_iast_n (j := (24 + i)) d_M_keep_64 rfl rfl (hX.lt (n := 28) ⟨by decide, by decide⟩ rfl (by omega)) (hX.jn (n := 128) (by decide) rfl (by omega)) ?_
    refine hg_aload1 d_M_keep_65 ?_
    refine hg_bipush (v := 30) d_M_keep_66 (by decide) ?_
    refine hg_iload2 d_M_keep_68 ?_
    refine hg_iadd d_M_keep_69 ?_
    refine hg_eq1 (y := nI (30 + i)) (nI_add _ _) ?_
    refine hg_aload0 d_M_keep_70 ?_
    refine hg_getR d_M_keep_71 f_M_27 rfl rfl (hX.lt (n := 1) ⟨by decide, by decide⟩ rfl (by omega)) (hR.m (j := 6) (q := (22, 5)) rfl) ?_
    refine hg_iload2 d_M_keep_74 ?_
    refine hg_iald_n (j := i) d_M_keep_75 rfl rfl (hX.lt (n := 28) ⟨by decide, by decide⟩ rfl (by omega)) (hX.jn (n := 6) (by decide) rfl (by omega)) ?_
    refine hg_eq1 (y := I1 22 5 i) (by simp [hg_u3]) ?_
    refine hg_iast_n (j := (30 + i)) d_M_keep_76 rfl rfl (hX.lt (n := 28) ⟨by decide, by decide⟩ rfl (by omega)) (hX.jn (n := 128) (by decide) rfl (by omega)) ?_
    refine hg_aload1 d_M_keep_77 ?_
    refine hg_bipush (v := 36) d_M_keep_78 (by decide) ?_
    refine hg_iload2 d_M_keep_80 ?_
    refine hg_iadd d_M_keep_81 ?_
    refine hg_eq1 (y := nI (36 + i)) (nI_add _ _) ?_
    refine hg_aload0 d_M_keep_82 ?_
    refine hg_getR d_M_keep_83 f_M_30 rfl rfl (hX.lt (n := 1) ⟨by decide, by decide⟩ rfl (by omega)) (hR.m (j := 7) (q := (22, 6)) rfl) ?_
    refine hg_iload2 d_M_keep_86 ?_
    refine hg_iald_n (j := i) d_M_keep_87 rfl rfl (hX.lt (n := 28) ⟨by decide, by decide⟩ rfl (by omega)) (hX.jn (n := 6) (by decide) rfl (by omega)) ?_
    refine hg_eq1 (y := I1 22 6 i) (by simp [hg_u3]) ?_
    refine hg_iast_n (j := (36 + i)) d_M_keep_88 rfl rfl (hX.lt (n := 28) ⟨by decide, by decide⟩ rfl (by omega)) (hX.jn (n := 128) (by decide) rfl (by omega)) ?_
    refine hg_aload1 d_M_keep_89 ?_
    refine hg_bipush (v := 42) d_M_keep_90 (by decide) ?_
    refine hg_iload2 d_M_keep_92 ?_
    refine hg_iadd d_M_keep_93 ?_
    refine hg_eq1 (y := nI (42 + i)) (nI_add _ _) ?_
    refine hg_aload0 d_M_keep_94 ?_
    refine hg_getR d_M_keep_95 f_M_36 rfl rfl (hX.lt (n := 1) ⟨by decide, by decide⟩ rfl (by omega)) (hR.m (j := 9) (q := (22, 8)) rfl) ?_
    refine hg_iload2 d_M_keep_98 ?_
    refine hg_iald_n (j := i) d_M_keep_99 rfl rfl (hX.lt (n := 28) ⟨by decide, by decide⟩ rfl (by omega)) (hX.jn (n := 6) (by decide) rfl (by omega)) ?_
    refine hg_eq1 (y := I1 22 8 i) (by simp [hg_u3]) ?_
    refine hg_iast_n (j := (42 + i)) d_M_keep_100 rfl rfl (hX.lt (n := 28) ⟨by decide, by decide⟩ rfl (by omega)) (hX.jn (n := 128) (by decide) rfl (by omega)) ?_
    refine hg_iinc2 (v := nI (i + 1)) d_M_keep_101 rfl (nI_add _ _) ?_
    refine hg_goto (tgt := 2) d_M_keep_104 (by decide) ?_
    refine ih (i + 1) _ (by omega) ((((((((hq.u).u).u).u).u).u).u).u) ⟨?_, ?_, ?_, ?_, ?_⟩
    · intro q hq
      by_cases e : q = i
      · subst e; clear h1 h2 h3 h4 h5
        refine ⟨?_, ?_, ?_, ?_, ?_, ?_, ?_, ?_⟩
        · ((repeat (first | rw [hg_u3k (by decide)] | (rw [hg_u3r]; first | rw [if_pos (by omega)] | rw [if_neg (by omega)]))))
        · ((repeat (first | rw [hg_u3k (by decide)] | (rw [hg_u3r]; first | rw [if_pos (by omega)] | rw [if_neg (by omega)]))))
        · ((repeat (first | rw [hg_u3k (by decide)] | (rw [hg_u3r]; first | rw [if_pos (by omega)] | rw [if_neg (by omega)]))))
        · ((repeat (first | rw [hg_u3k (by decide)] | (rw [hg_u3r]; first | rw [if_pos (by omega)] | rw [if_neg (by omega)]))))
        · ((repeat (first | rw [hg_u3k (by decide)] | (rw [hg_u3r]; first | rw [if_pos (by omega)] | rw [if_neg (by omega)]))))
        · ((repeat (first | rw [hg_u3k (by decide)] | (rw [hg_u3r]; first | rw [if_pos (by omega)] | rw [if_neg (by omega)]))))
        · ((repeat (first | rw [hg_u3k (by decide)] | (rw [hg_u3r]; first | rw [if_pos (by omega)] | rw [if_neg (by omega)]))))
        · ((repeat (first | rw [hg_u3k (by decide)] | (rw [hg_u3r]; first | rw [if_pos (by omega)] | rw [if_neg (by omega)]))))
      · have hq : q < i := by omega
        refine ⟨?_, ?_, ?_, ?_, ?_, ?_, ?_, ?_⟩
        · ((repeat (first | rw [hg_u3k (by decide)] | (rw [hg_u3r]; first | rw [if_pos (by omega)] | rw [if_neg (by omega)])))); exact (h1 q hq).1
        · ((repeat (first | rw [hg_u3k (by decide)] | (rw [hg_u3r]; first | rw [if_pos (by omega)] | rw [if_neg (by omega)])))); exact (h1 q hq).2.1
        · ((repeat (first | rw [hg_u3k (by decide)] | (rw [hg_u3r]; first | rw [if_pos (by omega)] | rw [if_neg (by omega)])))); exact (h1 q hq).2.2.1
        · ((repeat (first | rw [hg_u3k (by decide)] | (rw [hg_u3r]; first | rw [if_pos (by omega)] | rw [if_neg (by omega)])))); exact (h1 q hq).2.2.2.1
        · ((repeat (first | rw [hg_u3k (by decide)] | (rw [hg_u3r]; first | rw [if_pos (by omega)] | rw [if_neg (by omega)])))); exact (h1 q hq).2.2.2.2.1
        · ((repeat (first | rw [hg_u3k (by decide)] | (rw [hg_u3r]; first | rw [if_pos (by omega)] | rw [if_neg (by omega)])))); exact (h1 q hq).2.2.2.2.2.1
        · ((repeat (first | rw [hg_u3k (by decide)] | (rw [hg_u3r]; first | rw [if_pos (by omega)] | rw [if_neg (by omega)])))); exact (h1 q hq).2.2.2.2.2.2.1
        · ((repeat (first | rw [hg_u3k (by decide)] | (rw [hg_u3r]; first | rw [if_pos (by omega)] | rw [if_neg (by omega)])))); exact (h1 q hq).2.2.2.2.2.2.2
    · exact fun q hq => absurd hq (Nat.not_lt_zero _)
    · exact fun q hq => absurd hq (Nat.not_lt_zero _)
    · exact fun q hq => absurd hq (Nat.not_lt_zero _)
    · exact fun q hq => absurd hq (Nat.not_lt_zero _)
theorem m_M_keep23 (hX : hg_XS T X) (hR : hg_SR T Rf) : hg_MC l E (d + 1) Y_M_keep 0 0 [.ref (hg_ad E 21 0), .ref (hg_ad E 22 23)] (I, Lg, Rf, X) (hg_v (fun M' => ∃ I' : Nat → Nat → Nat → Int32, M' = (I', Lg, Rf, X) ∧ hk_r 23 I' I ∧ hk_P 6 24 5 10 8 (I' 22 23) I' ∧ hk_F (I' 22 23) I')) := by
  refine hg_mc k_M_keep (Nat.le_of_ble_eq_true rfl) ?_
  show hg_WP l E _ Y_M_keep 0 0 0 [some (.ref (hg_ad E 21 0)), some (.ref (hg_ad E 22 23)), none] [] (I, Lg, Rf, X) _
  refine hg_iconst (v := 0) d_M_keep_0 (by decide) ?_
  refine hg_istore2 d_M_keep_1 rfl ?_
  exact m_M_keep23_1 hX hR 6 0 I (by omega) hk_r.rf ⟨fun q hq => absurd hq (Nat.not_lt_zero _), fun q hq => absurd hq (Nat.not_lt_zero _), fun q hq => absurd hq (Nat.not_lt_zero _), fun q hq => absurd hq (Nat.not_lt_zero _), fun q hq => absurd hq (Nat.not_lt_zero _)⟩

theorem m_M_again23_6 (hX : hg_XS T X) (hR : hg_SR T Rf) {a2 : Option Value} (hq : hm_k I1 I) (hP : hk_P 6 24 5 10 8 (I1 22 23) I1) : hg_WP l E (d) Y_M_again 0 0 246 [some (.ref (hg_ad E 21 0)), some (.ref (hg_ad E 22 23)), a2] [] (I1, Lg, Rf, X) (hg_v (fun M' => ∃ I' : Nat → Nat → Nat → Int32, M' = (I', Lg, Rf, X) ∧ hm_k I' I ∧ hk_P 6 24 5 10 8 (I' 22 23) I' ∧ hk_F (I' 22 23) I')) := by
  refine hg_aload0 d_M_again_246 ?_
  refine hg_aload1 d_M_again_247 ?_
  refine hg_bipush (v := 118) d_M_again_248 (by decide) ?_
  refine hg_iald_n (j := 118) d_M_again_250 rfl rfl (hX.lt (n := 28) ⟨by decide, by decide⟩ rfl (by omega)) (hX.jn (n := 128) (by decide) rfl (by omega)) ?_
  refine hg_putI d_M_again_251 f_M_108 rfl rfl (Or.inl rfl) rfl rfl (hX.lt (n := 1) ⟨by decide, by decide⟩ rfl (by omega)) ?_
  refine hg_aload0 d_M_again_254 ?_
  refine hg_aload1 d_M_again_255 ?_
  refine hg_bipush (v := 119) d_M_again_256 (by decide) ?_
  refine hg_iald_n (j := 119) d_M_again_258 rfl rfl (hX.lt (n := 28) ⟨by decide, by decide⟩ rfl (by omega)) (hX.jn (n := 128) (by decide) rfl (by omega)) ?_
  refine hg_eq1 (y := I1 22 23 119) (by simp [hg_u3]) ?_
  refine hg_putI d_M_again_259 f_M_236 rfl rfl (Or.inl rfl) rfl rfl (hX.lt (n := 1) ⟨by decide, by decide⟩ rfl (by omega)) ?_
  refine hg_aload0 d_M_again_262 ?_
  refine hg_aload1 d_M_again_263 ?_
  refine hg_bipush (v := 120) d_M_again_264 (by decide) ?_
  refine hg_iald_n (j := 120) d_M_again_266 rfl rfl (hX.lt (n := 28) ⟨by decide, by decide⟩ rfl (by omega)) (hX.jn (n := 128) (by decide) rfl (by omega)) ?_
  refine hg_eq1 (y := I1 22 23 120) (by simp [hg_u3]) ?_
  refine hg_putI d_M_again_267 f_M_248 rfl rfl (Or.inl rfl) rfl rfl (hX.lt (n := 1) ⟨by decide, by decide⟩ rfl (by omega)) ?_
  refine hg_aload0 d_M_again_270 ?_
  refine hg_aload1 d_M_again_271 ?_
  refine hg_bipush (v := 121) d_M_again_272 (by decide) ?_
  refine hg_iald_n (j := 121) d_M_again_274 rfl rfl (hX.lt (n := 28) ⟨by decide, by decide⟩ rfl (by omega)) (hX.jn (n := 128) (by decide) rfl (by omega)) ?_
  refine hg_eq1 (y := I1 22 23 121) (by simp [hg_u3]) ?_
  refine hg_putI d_M_again_275 f_M_251 rfl rfl (Or.inl rfl) rfl rfl (hX.lt (n := 1) ⟨by decide, by decide⟩ rfl (by omega)) ?_
  refine hg_aload0 d_M_again_278 ?_
  refine hg_aload1 d_M_again_279 ?_
  refine hg_bipush (v := 122) d_M_again_280 (by decide) ?_
  refine hg_iald_n (j := 122) d_M_again_282 rfl rfl (hX.lt (n := 28) ⟨by decide, by decide⟩ rfl (by omega)) (hX.jn (n := 128) (by decide) rfl (by omega)) ?_
  refine hg_eq1 (y := I1 22 23 122) (by simp [hg_u3]) ?_
  refine hg_putI d_M_again_283 f_M_214 rfl rfl (Or.inl rfl) rfl rfl (hX.lt (n := 1) ⟨by decide, by decide⟩ rfl (by omega)) ?_
  refine hg_aload0 d_M_again_286 ?_
  refine hg_aload1 d_M_again_287 ?_
  refine hg_bipush (v := 123) d_M_again_288 (by decide) ?_
  refine hg_iald_n (j := 123) d_M_again_290 rfl rfl (hX.lt (n := 28) ⟨by decide, by decide⟩ rfl (by omega)) (hX.jn (n := 128) (by decide) rfl (by omega)) ?_
  refine hg_eq1 (y := I1 22 23 123) (by simp [hg_u3]) ?_
  refine hg_putI d_M_again_291 f_M_282 rfl rfl (Or.inl rfl) rfl rfl (hX.lt (n := 1) ⟨by decide, by decide⟩ rfl (by omega)) ?_
  refine hg_aload0 d_M_again_294 ?_
  refine hg_aload1 d_M_again_295 ?_
  refine hg_bipush (v := 124) d_M_again_296 (by decide) ?_
  refine hg_iald_n (j := 124) d_M_again_298 rfl rfl (hX.lt (n := 28) ⟨by decide, by decide⟩ rfl (by omega)) (hX.jn (n := 128) (by decide) rfl (by omega)) ?_
  refine hg_eq1 (y := I1 22 23 124) (by simp [hg_u3]) ?_
  refine hg_putI d_M_again_299 f_M_294 rfl rfl (Or.inl rfl) rfl rfl (hX.lt (n := 1) ⟨by decide, by decide⟩ rfl (by omega)) ?_
  refine hg_aload0 d_M_again_302 ?_
  refine hg_aload1 d_M_again_303 ?_
  refine hg_bipush (v := 125) d_M_again_304 (by decide) ?_
  refine hg_iald_n (j := 125) d_M_again_306 rfl rfl (hX.lt (n := 28) ⟨by decide, by decide⟩ rfl (by omega)) (hX.jn (n := 128) (by decide) rfl (by omega)) ?_
  refine hg_eq1 (y := I1 22 23 125) (by simp [hg_u3]) ?_
  refine hg_putI d_M_again_307 f_M_297 rfl rfl (Or.inl rfl) rfl rfl (hX.lt (n := 1) ⟨by decide, by decide⟩ rfl (by omega)) ?_
  refine hg_aload0 d_M_again_310 ?_
  refine hg_aload1 d_M_again_311 ?_
  refine hg_bipush (v := 126) d_M_again_312 (by decide) ?_
  refine hg_iald_n (j := 126) d_M_again_314 rfl rfl (hX.lt (n := 28) ⟨by decide, by decide⟩ rfl (by omega)) (hX.jn (n := 128) (by decide) rfl (by omega)) ?_
  refine hg_eq1 (y := I1 22 23 126) (by simp [hg_u3]) ?_
  refine hg_putI d_M_again_315 f_M_104 rfl rfl (Or.inl rfl) rfl rfl (hX.lt (n := 1) ⟨by decide, by decide⟩ rfl (by omega)) ?_
  obtain ⟨h1, h2, h3, h4, h5⟩ := hP
  refine hg_return d_M_again_318 rfl ?_
  refine ⟨_, rfl, (hm_k.u21 (hm_k.u21 (hm_k.u21 (hm_k.u21 (hm_k.u21 (hm_k.u21 (hm_k.u21 (hm_k.u21 (hm_k.u21 hq (by omega)) (by omega)) (by omega)) (by omega)) (by omega)) (by omega)) (by omega)) (by omega)) (by omega)), ⟨?_, ?_, ?_, ?_, ?_⟩, ⟨?_, ?_, ?_, ?_, ?_, ?_, ?_, ?_, ?_⟩⟩
  · intro q hq
    refine ⟨?_, ?_, ?_, ?_, ?_, ?_, ?_, ?_⟩
    · (repeat (first | rw [hg_u3k (by decide)] | (rw [hg_u3r]; first | rw [if_pos (by omega)] | rw [if_neg (by omega)]))); exact (h1 q hq).1
    · (repeat (first | rw [hg_u3k (by decide)] | (rw [hg_u3r]; first | rw [if_pos (by omega)] | rw [if_neg (by omega)]))); exact (h1 q hq).2.1
    · (repeat (first | rw [hg_u3k (by decide)] | (rw [hg_u3r]; first | rw [if_pos (by omega)] | rw [if_neg (by omega)]))); exact (h1 q hq).2.2.1
    · (repeat (first | rw [hg_u3k (by decide)] | (rw [hg_u3r]; first | rw [if_pos (by omega)] | rw [if_neg (by omega)]))); exact (h1 q hq).2.2.2.1
    · (repeat (first | rw [hg_u3k (by decide)] | (rw [hg_u3r]; first | rw [if_pos (by omega)] | rw [if_neg (by omega)]))); exact (h1 q hq).2.2.2.2.1
    · (repeat (first | rw [hg_u3k (by decide)] | (rw [hg_u3r]; first | rw [if_pos (by omega)] | rw [if_neg (by omega)]))); exact (h1 q hq).2.2.2.2.2.1
    · (repeat (first | rw [hg_u3k (by decide)] | (rw [hg_u3r]; first | rw [if_pos (by omega)] | rw [if_neg (by omega)]))); exact (h1 q hq).2.2.2.2.2.2.1
    · (repeat (first | rw [hg_u3k (by decide)] | (rw [hg_u3r]; first | rw [if_pos (by omega)] | rw [if_neg (by omega)]))); exact (h1 q hq).2.2.2.2.2.2.2
  · intro q hq
    (repeat (first | rw [hg_u3k (by decide)] | (rw [hg_u3r]; first | rw [if_pos (by omega)] | rw [if_neg (by omega)]))); exact (h2 q hq)
  · intro q hq
    refine ⟨?_, ?_⟩
    · (repeat (first | rw [hg_u3k (by decide)] | (rw [hg_u3r]; first | rw [if_pos (by omega)] | rw [if_neg (by omega)]))); exact (h3 q hq).1
    · (repeat (first | rw [hg_u3k (by decide)] | (rw [hg_u3r]; first | rw [if_pos (by omega)] | rw [if_neg (by omega)]))); exact (h3 q hq).2
  · intro q hq
    refine ⟨?_, ?_⟩
    · (repeat (first | rw [hg_u3k (by decide)] | (rw [hg_u3r]; first | rw [if_pos (by omega)] | rw [if_neg (by omega)]))); exact (h4 q hq).1
    · (repeat (first | rw [hg_u3k (by decide)] | (rw [hg_u3r]; first | rw [if_pos (by omega)] | rw [if_neg (by omega)]))); exact (h4 q hq).2
  · intro q hq
    refine ⟨?_, ?_⟩
    · (repeat (first | rw [hg_u3k (by decide)] | (rw [hg_u3r]; first | rw [if_pos (by omega)] | rw [if_neg (by omega)]))); exact (h5 q hq).1
    · (repeat (first | rw [hg_u3k (by decide)] | (rw [hg_u3r]; first | rw [if_pos (by omega)] | rw [if_neg (by omega)]))); exact (h5 q hq).2
  · ((repeat (first | rw [hg_u3k (by decide)] | (rw [hg_u3r]; first | rw [if_pos (by omega)] | rw [if_neg (by omega)]))))
  · ((repeat (first | rw [hg_u3k (by decide)] | (rw [hg_u3r]; first | rw [if_pos (by omega)] | rw [if_neg (by omega)]))))
  · ((repeat (first | rw [hg_u3k (by decide)] | (rw [hg_u3r]; first | rw [if_pos (by omega)] | rw [if_neg (by omega)]))))
  · ((repeat (first | rw [hg_u3k (by decide)] | (rw [hg_u3r]; first | rw [if_pos (by omega)] | rw [if_neg (by omega)]))))
  · ((repeat (first | rw [hg_u3k (by decide)] | (rw [hg_u3r]; first | rw [if_pos (by omega)] | rw [if_neg (by omega)]))))
  · ((repeat (first | rw [hg_u3k (by decide)] | (rw [hg_u3r]; first | rw [if_pos (by omega)] | rw [if_neg (by omega)]))))
  · ((repeat (first | rw [hg_u3k (by decide)] | (rw [hg_u3r]; first | rw [if_pos (by omega)] | rw [if_neg (by omega)]))))
  · ((repeat (first | rw [hg_u3k (by decide)] | (rw [hg_u3r]; first | rw [if_pos (by omega)] | rw [if_neg (by omega)]))))
  · ((repeat (first | rw [hg_u3k (by decide)] | (rw [hg_u3r]; first | rw [if_pos (by omega)] | rw [if_neg (by omega)]))))
theorem m_M_again23_5 (hX : hg_XS T X) (hR : hg_SR T Rf) : ∀ (k i : Nat) (I1 : Nat → Nat → Nat → Int32), i + k = 8 → hm_k I1 I → hk_P 6 24 5 10 i (I1 22 23) I1 → hg_WP l E (d) Y_M_again 0 0 210 [some (.ref (hg_ad E 21 0)), some (.ref (hg_ad E 22 23)), some (.int (nI i))] [] (I1, Lg, Rf, X) (hg_v (fun M' => ∃ I' : Nat → Nat → Nat → Int32, M' = (I', Lg, Rf, X) ∧ hm_k I' I ∧ hk_P 6 24 5 10 8 (I' 22 23) I' ∧ hk_F (I' 22 23) I')) := by
  intro k
  induction k with
  | zero =>
    intro i I1 hik hq hP
    obtain rfl : i = 8 := by omega
    refine hg_iload2 d_M_again_210 ?_
    refine hg_bipush (v := 8) d_M_again_211 (by decide) ?_
    refine hg_icmp_ge (tgt := 246) d_M_again_213 (by decide) (fun h_1 => ?_) (fun h_1 => absurd (by decide) h_1)
    exact m_M_again23_6 hX hR hq hP
  | succ k ih =>
    intro i I1 hik hq hP
    obtain ⟨h1, h2, h3, h4, h5⟩ := hP
    refine hg_iload2 d_M_again_210 ?_
    refine hg_bipush (v := 8) d_M_again_211 (by decide) ?_
    refine hg_icmp_ge (tgt := 246) d_M_again_213 (by decide) (fun h_2 => absurd h_2 (nI_ge (a := i) (b := 8) (by omega) (by decide))) (fun h_2 => ?_)
    refine hg_aload0 d_M_again_216 ?_
    refine hg_getR d_M_again_217 f_M_76 rfl rfl (hX.lt (n := 1) ⟨by decide, by decide⟩ rfl (by omega)) (hR.m (j := 37) (q := (22, 20)) rfl) ?_
    refine hg_iload2 d_M_again_220 ?_
    refine hg_aload1 d_M_again_221 ?_
    refine hg_bipush (v := 102) d_M_again_222 (by decide) ?_
    refine hg_iload2 d_M_again_224 ?_
    refine hg_iadd d_M_again_225 ?_
    refine hg_eq1 (y := nI (102 + i)) (nI_add _ _) ?_
    refine hg_iald_n (j := (102 + i)) d_M_again_226 rfl rfl (hX.lt (n := 28) ⟨by decide, by decide⟩ rfl (by omega)) (hX.jn (n := 128) (by decide) rfl (by omega)) ?_
    refine hg_iast_n (j := i) d_M_again_227 rfl rfl (hX.lt (n := 28) ⟨by decide, by decide⟩ rfl (by omega)) (hX.jn (n := 8) (by decide) rfl (by omega)) ?_
    refine hg_aload0 d_M_again_228 ?_
    refine hg_getR d_M_again_229 f_M_79 rfl rfl (hX.lt (n := 1) ⟨by decide, by decide⟩ rfl (by omega)) (hR.m (j := 38) (q := (22, 21)) rfl) ?_
    refine hg_iload2 d_M_again_232 ?_
    refine hg_aload1 d_M_again_233 ?_
    refine hg_bipush (v := 110) d_M_again_234 (by decide) ?_
    refine hg_iload2 d_M_again_236 ?_
    refine hg_iadd d_M_again_237 ?_
    refine hg_eq1 (y := nI (110 + i)) (nI_add _ _) ?_
    refine hg_iald_n (j := (110 + i)) d_M_again_238 rfl rfl (hX.lt (n := 28) ⟨by decide, by decide⟩ rfl (by omega)) (hX.jn (n := 128) (by decide) rfl (by omega)) ?_
    refine hg_eq1 (y := I1 22 23 (110 + i)) (by simp [hg_u3]) ?_
    refine hg_iast_n (j := i) d_M_again_239 rfl rfl (hX.lt (n := 28) ⟨by decide, by decide⟩ rfl (by omega)) (hX.jn (n := 8) (by decide) rfl (by omega)) ?_
    refine hg_iinc2 (v := nI (i + 1)) d_M_again_240 rfl (nI_add _ _) ?_
    refine hg_goto (tgt := 210) d_M_again_243 (by decide) ?_
    refine ih (i + 1) _ (by omega) (hm_k.u22 (hm_k.u22 hq (by omega)) (by omega)) ⟨?_, ?_, ?_, ?_, ?_⟩
    · intro q hq
      refine ⟨?_, ?_, ?_, ?_, ?_, ?_, ?_, ?_⟩
      · (repeat (first | rw [hg_u3k (by decide)] | (rw [hg_u3r]; first | rw [if_pos (by omega)] | rw [if_neg (by omega)]))); exact (h1 q hq).1
      · (repeat (first | rw [hg_u3k (by decide)] | (rw [hg_u3r]; first | rw [if_pos (by omega)] | rw [if_neg (by omega)]))); exact (h1 q hq).2.1
      · (repeat (first | rw [hg_u3k (by decide)] | (rw [hg_u3r]; first | rw [if_pos (by omega)] | rw [if_neg (by omega)]))); exact (h1 q hq).2.2.1
      · (repeat (first | rw [hg_u3k (by decide)] | (rw [hg_u3r]; first | rw [if_pos (by omega)] | rw [if_neg (by omega)]))); exact (h1 q hq).2.2.2.1
      · (repeat (first | rw [hg_u3k (by decide)] | (rw [hg_u3r]; first | rw [if_pos (by omega)] | rw [if_neg (by omega)]))); exact (h1 q hq).2.2.2.2.1
      · (repeat (first | rw [hg_u3k (by decide)] | (rw [hg_u3r]; first | rw [if_pos (by omega)] | rw [if_neg (by omega)]))); exact (h1 q hq).2.2.2.2.2.1
      · (repeat (first | rw [hg_u3k (by decide)] | (rw [hg_u3r]; first | rw [if_pos (by omega)] | rw [if_neg (by omega)]))); exact (h1 q hq).2.2.2.2.2.2.1
      · (repeat (first | rw [hg_u3k (by decide)] | (rw [hg_u3r]; first | rw [if_pos (by omega)] | rw [if_neg (by omega)]))); exact (h1 q hq).2.2.2.2.2.2.2
    · intro q hq
      (repeat (first | rw [hg_u3k (by decide)] | (rw [hg_u3r]; first | rw [if_pos (by omega)] | rw [if_neg (by omega)]))); exact (h2 q hq)
    · intro q hq
      refine ⟨?_, ?_⟩
      · (repeat (first | rw [hg_u3k (by decide)] | (rw [hg_u3r]; first | rw [if_pos (by omega)] | rw [if_neg (by omega)]))); exact (h3 q hq).1
      · (repeat (first | rw [hg_u3k (by decide)] | (rw [hg_u3r]; first | rw [if_pos (by omega)] | rw [if_neg (by omega)]))); exact (h3 q hq).2
    · intro q hq
      refine ⟨?_, ?_⟩
      · (repeat (first | rw [hg_u3k (by decide)] | (rw [hg_u3r]; first | rw [if_pos (by omega)] | rw [if_neg (by omega)]))); exact (h4 q hq).1
      · (repeat (first | rw [hg_u3k (by decide)] | (rw [hg_u3r]; first | rw [if_pos (by omega)] | rw [if_neg (by omega)]))); exact (h4 q hq).2
    · intro q hq
      by_cases e : q = i
      · subst e; clear h1 h2 h3 h4 h5
        refine ⟨?_, ?_⟩
        · ((repeat (first | rw [hg_u3k (by decide)] | (rw [hg_u3r]; first | rw [if_pos (by omega)] | rw [if_neg (by omega)]))))
        · ((repeat (first | rw [hg_u3k (by decide)] | (rw [hg_u3r]; first | rw [if_pos (by omega)] | rw [if_neg (by omega)]))))
      · have hq : q < i := by omega
        refine ⟨?_, ?_⟩
        · ((repeat (first | rw [hg_u3k (by decide)] | (rw [hg_u3r]; first | rw [if_pos (by omega)] | rw [if_neg (by omega)])))); exact (h5 q hq).1
        · ((repeat (first | rw [hg_u3k (by decide)] | (rw [hg_u3r]; first | rw [if_pos (by omega)] | rw [if_neg (by omega)])))); exact (h5 q hq).2
theorem m_M_again23_4 (hX : hg_XS T X) (hR : hg_SR T Rf) : ∀ (k i : Nat) (I1 : Nat → Nat → Nat → Int32), i + k = 10 → hm_k I1 I → hk_P 6 24 5 i 0 (I1 22 23) I1 → hg_WP l E (d) Y_M_again 0 0 172 [some (.ref (hg_ad E 21 0)), some (.ref (hg_ad E 22 23)), some (.int (nI i))] [] (I1, Lg, Rf, X) (hg_v (fun M' => ∃ I' : Nat → Nat → Nat → Int32, M' = (I', Lg, Rf, X) ∧ hm_k I' I ∧ hk_P 6 24 5 10 8 (I' 22 23) I' ∧ hk_F (I' 22 23) I')) := by
  intro k
  induction k with
  | zero =>
    intro i I1 hik hq hP
    obtain rfl : i = 10 := by omega
    refine hg_iload2 d_M_again_172 ?_
    refine hg_bipush (v := 10) d_M_again_173 (by decide) ?_
    refine hg_icmp_ge (tgt := 208) d_M_again_175 (by decide) (fun h_1 => ?_) (fun h_1 => absurd (by decide) h_1)
    refine hg_iconst (v := 0) d_M_again_208 (by decide) ?_
    refine hg_istore2 d_M_again_209 rfl ?_
    exact m_M_again23_5 hX hR 8 0 I1 (by omega) hq hP
  | succ k ih =>
    intro i I1 hik hq hP
    obtain ⟨h1, h2, h3, h4, h5⟩ := hP
    refine hg_iload2 d_M_again_172 ?_
    refine hg_bipush (v := 10) d_M_again_173 (by decide) ?_
    refine hg_icmp_ge (tgt := 208) d_M_again_175 (by decide) (fun h_2 => absurd h_2 (nI_ge (a := i) (b := 10) (by omega) (by decide))) (fun h_2 => ?_)
    refine hg_aload0 d_M_again_178 ?_
    refine hg_getR d_M_again_179 f_M_70 rfl rfl (hX.lt (n := 1) ⟨by decide, by decide⟩ rfl (by omega)) (hR.m (j := 34) (q := (22, 18)) rfl) ?_
    refine hg_iload2 d_M_again_182 ?_
    refine hg_aload1 d_M_again_183 ?_
    refine hg_bipush (v := 82) d_M_again_184 (by decide) ?_
    refine hg_iload2 d_M_again_186 ?_
    refine hg_iadd d_M_again_187 ?_
    refine hg_eq1 (y := nI (82 + i)) (nI_add _ _) ?_
    refine hg_iald_n (j := (82 + i)) d_M_again_188 rfl rfl (hX.lt (n := 28) ⟨by decide, by decide⟩ rfl (by omega)) (hX.jn (n := 128) (by decide) rfl (by omega)) ?_
    refine hg_iast_n (j := i) d_M_again_189 rfl rfl (hX.lt (n := 28) ⟨by decide, by decide⟩ rfl (by omega)) (hX.jn (n := 10) (by decide) rfl (by omega)) ?_
    refine hg_aload0 d_M_again_190 ?_
    refine hg_getR d_M_again_191 f_M_73 rfl rfl (hX.lt (n := 1) ⟨by decide, by decide⟩ rfl (by omega)) (hR.m (j := 35) (q := (22, 19)) rfl) ?_
    refine hg_iload2 d_M_again_194 ?_
    refine hg_aload1 d_M_again_195 ?_
    refine hg_bipush (v := 92) d_M_again_196 (by decide) ?_
    refine hg_iload2 d_M_again_198 ?_
    refine hg_iadd d_M_again_199 ?_
    refine hg_eq1 (y := nI (92 + i)) (nI_add _ _) ?_
    refine hg_iald_n (j := (92 + i)) d_M_again_200 rfl rfl (hX.lt (n := 28) ⟨by decide, by decide⟩ rfl (by omega)) (hX.jn (n := 128) (by decide) rfl (by omega)) ?_
    refine hg_eq1 (y := I1 22 23 (92 + i)) (by simp [hg_u3]) ?_
    refine hg_iast_n (j := i) d_M_again_201 rfl rfl (hX.lt (n := 28) ⟨by decide, by decide⟩ rfl (by omega)) (hX.jn (n := 10) (by decide) rfl (by omega)) ?_
    refine hg_iinc2 (v := nI (i + 1)) d_M_again_202 rfl (nI_add _ _) ?_
    refine hg_goto (tgt := 172) d_M_again_205 (by decide) ?_
    refine ih (i + 1) _ (by omega) (hm_k.u22 (hm_k.u22 hq (by omega)) (by omega)) ⟨?_, ?_, ?_, ?_, ?_⟩
    · intro q hq
      refine ⟨?_, ?_, ?_, ?_, ?_, ?_, ?_, ?_⟩
      · (repeat (first | rw [hg_u3k (by decide)] | (rw [hg_u3r]; first | rw [if_pos (by omega)] | rw [if_neg (by omega)]))); exact (h1 q hq).1
      · (repeat (first | rw [hg_u3k (by decide)] | (rw [hg_u3r]; first | rw [if_pos (by omega)] | rw [if_neg (by omega)]))); exact (h1 q hq).2.1
      · (repeat (first | rw [hg_u3k (by decide)] | (rw [hg_u3r]; first | rw [if_pos (by omega)] | rw [if_neg (by omega)]))); exact (h1 q hq).2.2.1
      · (repeat (first | rw [hg_u3k (by decide)] | (rw [hg_u3r]; first | rw [if_pos (by omega)] | rw [if_neg (by omega)]))); exact (h1 q hq).2.2.2.1
      · (repeat (first | rw [hg_u3k (by decide)] | (rw [hg_u3r]; first | rw [if_pos (by omega)] | rw [if_neg (by omega)]))); exact (h1 q hq).2.2.2.2.1
      · (repeat (first | rw [hg_u3k (by decide)] | (rw [hg_u3r]; first | rw [if_pos (by omega)] | rw [if_neg (by omega)]))); exact (h1 q hq).2.2.2.2.2.1
      · (repeat (first | rw [hg_u3k (by decide)] | (rw [hg_u3r]; first | rw [if_pos (by omega)] | rw [if_neg (by omega)]))); exact (h1 q hq).2.2.2.2.2.2.1
      · (repeat (first | rw [hg_u3k (by decide)] | (rw [hg_u3r]; first | rw [if_pos (by omega)] | rw [if_neg (by omega)]))); exact (h1 q hq).2.2.2.2.2.2.2
    · intro q hq
      (repeat (first | rw [hg_u3k (by decide)] | (rw [hg_u3r]; first | rw [if_pos (by omega)] | rw [if_neg (by omega)]))); exact (h2 q hq)
    · intro q hq
      refine ⟨?_, ?_⟩
      · (repeat (first | rw [hg_u3k (by decide)] | (rw [hg_u3r]; first | rw [if_pos (by omega)] | rw [if_neg (by omega)]))); exact (h3 q hq).1
      · (repeat (first | rw [hg_u3k (by decide)] | (rw [hg_u3r]; first | rw [if_pos (by omega)] | rw [if_neg (by omega)]))); exact (h3 q hq).2
    · intro q hq
      by_cases e : q = i
      · subst e; clear h1 h2 h3 h4 h5
        refine ⟨?_, ?_⟩
        · ((repeat (first | rw [hg_u3k (by decide)] | (rw [hg_u3r]; first | rw [if_pos (by omega)] | rw [if_neg (by omega)]))))
        · ((repeat (first | rw [hg_u3k (by decide)] | (rw [hg_u3r]; first | rw [if_pos (by omega)] | rw [if_neg (by omega)]))))
      · have hq : q < i := by omega
        refine ⟨?_, ?_⟩
        · ((repeat (first | rw [hg_u3k (by decide)] | (rw [hg_u3r]; first | rw [if_pos (by omega)] | rw [if_neg (by omega)])))); exact (h4 q hq).1
        · ((repeat (first | rw [hg_u3k (by decide)] | (rw [hg_u3r]; first | rw [if_pos (by omega)] | rw [if_neg (by omega)])))); exact (h4 q hq).2
    · exact fun q hq => absurd hq (Nat.not_lt_zero _)
theorem m_M_again23_3 (hX : hg_XS T X) (hR : hg_SR T Rf) : ∀ (k i : Nat) (I1 : Nat → Nat → Nat → Int32), i + k = 5 → hm_k I1 I → hk_P 6 24 i 0 0 (I1 22 23) I1 → hg_WP l E (d) Y_M_again 0 0 135 [some (.ref (hg_ad E 21 0)), some (.ref (hg_ad E 22 23)), some (.int (nI i))] [] (I1, Lg, Rf, X) (hg_v (fun M' => ∃ I' : Nat → Nat → Nat → Int32, M' = (I', Lg, Rf, X) ∧ hm_k I' I ∧ hk_P 6 24 5 10 8 (I' 22 23) I' ∧ hk_F (I' 22 23) I')) := by
  intro k
  induction k with
  | zero =>
    intro i I1 hik hq hP
    obtain rfl : i = 5 := by omega
    refine hg_iload2 d_M_again_135 ?_
    refine hg_iconst (v := 5) d_M_again_136 (by decide) ?_
    refine hg_icmp_ge (tgt := 170) d_M_again_137 (by decide) (fun h_1 => ?_) (fun h_1 => absurd (by decide) h_1)
    refine hg_iconst (v := 0) d_M_again_170 (by decide) ?_
    refine hg_istore2 d_M_again_171 rfl ?_
    exact m_M_again23_4 hX hR 10 0 I1 (by omega) hq hP
  | succ k ih =>
    intro i I1 hik hq hP
    obtain ⟨h1, h2, h3, h4, h5⟩ := hP
    refine hg_iload2 d_M_again_135 ?_
    refine hg_iconst (v := 5) d_M_again_136 (by decide) ?_
    refine hg_icmp_ge (tgt := 170) d_M_again_137 (by decide) (fun h_2 => absurd h_2 (nI_ge (a := i) (b := 5) (by omega) (by decide))) (fun h_2 => ?_)
    refine hg_aload0 d_M_again_140 ?_
    refine hg_getR d_M_again_141 f_M_64 rfl rfl (hX.lt (n := 1) ⟨by decide, by decide⟩ rfl (by omega)) (hR.m (j := 31) (q := (22, 16)) rfl) ?_
    refine hg_iload2 d_M_again_144 ?_
    refine hg_aload1 d_M_again_145 ?_
    refine hg_bipush (v := 72) d_M_again_146 (by decide) ?_
    refine hg_iload2 d_M_again_148 ?_
    refine hg_iadd d_M_again_149 ?_
    refine hg_eq1 (y := nI (72 + i)) (nI_add _ _) ?_
    refine hg_iald_n (j := (72 + i)) d_M_again_150 rfl rfl (hX.lt (n := 28) ⟨by decide, by decide⟩ rfl (by omega)) (hX.jn (n := 128) (by decide) rfl (by omega)) ?_
    refine hg_iast_n (j := i) d_M_again_151 rfl rfl (hX.lt (n := 28) ⟨by decide, by decide⟩ rfl (by omega)) (hX.jn (n := 5) (by decide) rfl (by omega)) ?_
    refine hg_aload0 d_M_again_152 ?_
    refine hg_getR d_M_again_153 f_M_67 rfl rfl (hX.lt (n := 1) ⟨by decide, by decide⟩ rfl (by omega)) (hR.m (j := 32) (q := (22, 17)) rfl) ?_
    refine hg_iload2 d_M_again_156 ?_
    refine hg_aload1 d_M_again_157 ?_
    refine hg_bipush (v := 77) d_M_again_158 (by decide) ?_
    refine hg_iload2 d_M_again_160 ?_
    refine hg_iadd d_M_again_161 ?_
    refine hg_eq1 (y := nI (77 + i)) (nI_add _ _) ?_
    refine hg_iald_n (j := (77 + i)) d_M_again_162 rfl rfl (hX.lt (n := 28) ⟨by decide, by decide⟩ rfl (by omega)) (hX.jn (n := 128) (by decide) rfl (by omega)) ?_
    refine hg_eq1 (y := I1 22 23 (77 + i)) (by simp [hg_u3]) ?_
    refine hg_iast_n (j := i) d_M_again_163 rfl rfl (hX.lt (n := 28) ⟨by decide, by decide⟩ rfl (by omega)) (hX.jn (n := 5) (by decide) rfl (by omega)) ?_
    refine hg_iinc2 (v := nI (i + 1)) d_M_again_164 rfl (nI_add _ _) ?_
    refine hg_goto (tgt := 135) d_M_again_167 (by decide) ?_
    refine ih (i + 1) _ (by omega) (hm_k.u22 (hm_k.u22 hq (by omega)) (by omega)) ⟨?_, ?_, ?_, ?_, ?_⟩
    · intro q hq
      refine ⟨?_, ?_, ?_, ?_, ?_, ?_, ?_, ?_⟩
      · (repeat (first | rw [hg_u3k (by decide)] | (rw [hg_u3r]; first | rw [if_pos (by omega)] | rw [if_neg (by omega)]))); exact (h1 q hq).1
      · (repeat (first | rw [hg_u3k (by decide)] | (rw [hg_u3r]; first | rw [if_pos (by omega)] | rw [if_neg (by omega)]))); exact (h1 q hq).2.1
      · (repeat (first | rw [hg_u3k (by decide)] | (rw [hg_u3r]; first | rw [if_pos (by omega)] | rw [if_neg (by omega)]))); exact (h1 q hq).2.2.1
      · (repeat (first | rw [hg_u3k (by decide)] | (rw [hg_u3r]; first | rw [if_pos (by omega)] | rw [if_neg (by omega)]))); exact (h1 q hq).2.2.2.1
      · (repeat (first | rw [hg_u3k (by decide)] | (rw [hg_u3r]; first | rw [if_pos (by omega)] | rw [if_neg (by omega)]))); exact (h1 q hq).2.2.2.2.1
      · (repeat (first | rw [hg_u3k (by decide)] | (rw [hg_u3r]; first | rw [if_pos (by omega)] | rw [if_neg (by omega)]))); exact (h1 q hq).2.2.2.2.2.1
      · (repeat (first | rw [hg_u3k (by decide)] | (rw [hg_u3r]; first | rw [if_pos (by omega)] | rw [if_neg (by omega)]))); exact (h1 q hq).2.2.2.2.2.2.1
      · (repeat (first | rw [hg_u3k (by decide)] | (rw [hg_u3r]; first | rw [if_pos (by omega)] | rw [if_neg (by omega)]))); exact (h1 q hq).2.2.2.2.2.2.2
    · intro q hq
      (repeat (first | rw [hg_u3k (by decide)] | (rw [hg_u3r]; first | rw [if_pos (by omega)] | rw [if_neg (by omega)]))); exact (h2 q hq)
    · intro q hq
      by_cases e : q = i
      · subst e; clear h1 h2 h3 h4 h5
        refine ⟨?_, ?_⟩
        · ((repeat (first | rw [hg_u3k (by decide)] | (rw [hg_u3r]; first | rw [if_pos (by omega)] | rw [if_neg (by omega)]))))
        · ((repeat (first | rw [hg_u3k (by decide)] | (rw [hg_u3r]; first | rw [if_pos (by omega)] | rw [if_neg (by omega)]))))
      · have hq : q < i := by omega
        refine ⟨?_, ?_⟩
        · ((repeat (first | rw [hg_u3k (by decide)] | (rw [hg_u3r]; first | rw [if_pos (by omega)] | rw [if_neg (by omega)])))); exact (h3 q hq).1
        · ((repeat (first | rw [hg_u3k (by decide)] | (rw [hg_u3r]; first | rw [if_pos (by omega)] | rw [if_neg (by omega)])))); exact (h3 q hq).2
    · exact fun q hq => absurd hq (Nat.not_lt_zero _)
    · exact fun q hq => absurd hq (Nat.not_lt_zero _)
theorem m_M_again23_2 (hX : hg_XS T X) (hR : hg_SR T Rf) : ∀ (k i : Nat) (I1 : Nat → Nat → Nat → Int32), i + k = 24 → hm_k I1 I → hk_P 6 i 0 0 0 (I1 22 23) I1 → hg_WP l E (d) Y_M_again 0 0 109 [some (.ref (hg_ad E 21 0)), some (.ref (hg_ad E 22 23)), some (.int (nI i))] [] (I1, Lg, Rf, X) (hg_v (fun M' => ∃ I' : Nat → Nat → Nat → Int32, M' = (I', Lg, Rf, X) ∧ hm_k I' I ∧ hk_P 6 24 5 10 8 (I' 22 23) I' ∧ hk_F (I' 22 23) I')) := by
  intro k
  induction k with
  | zero =>
    intro i I1 hik hq hP
    obtain rfl : i = 24 := by omega
    refine hg_iload2 d_M_again_109 ?_
    refine hg_bipush (v := 24) d_M_again_110 (by decide) ?_
    refine hg_icmp_ge (tgt := 133) d_M_again_112 (by decide) (fun h_1 => ?_) (fun h_1 => absurd (by decide) h_1)
    refine hg_iconst (v := 0) d_M_again_133 (by decide) ?_
    refine hg_istore2 d_M_again_134 rfl ?_
    exact m_M_again23_3 hX hR 5 0 I1 (by omega) hq hP
  | succ k ih =>
    intro i I1 hik hq hP
    obtain ⟨h1, h2, h3, h4, h5⟩ := hP
    refine hg_iload2 d_M_again_109 ?_
    refine hg_bipush (v := 24) d_M_again_110 (by decide) ?_
    refine hg_icmp_ge (tgt := 133) d_M_again_112 (by decide) (fun h_2 => absurd h_2 (nI_ge (a := i) (b := 24) (by omega) (by decide))) (fun h_2 => ?_)
    refine hg_aload0 d_M_again_115 ?_
    refine hg_getR d_M_again_116 f_M_33 rfl rfl (hX.lt (n := 1) ⟨by decide, by decide⟩ rfl (by omega)) (hR.m (j := 8) (q := (22, 7)) rfl) ?_
    refine hg_iload2 d_M_again_119 ?_
    refine hg_aload1 d_M_again_120 ?_
    refine hg_bipush (v := 48) d_M_again_121 (by decide) ?_
    refine hg_iload2 d_M_again_123 ?_
    refine hg_iadd d_M_again_124 ?_
    refine hg_eq1 (y := nI (48 + i)) (nI_add _ _) ?_
    refine hg_iald_n (j := (48 + i)) d_M_again_125 rfl rfl (hX.lt (n := 28) ⟨by decide, by decide⟩ rfl (by omega)) (hX.jn (n := 128) (by decide) rfl (by omega)) ?_
    refine hg_iast_n (j := i) d_M_again_126 rfl rfl (hX.lt (n := 28) ⟨by decide, by decide⟩ rfl (by omega)) (hX.jn (n := 24) (by decide) rfl (by omega)) ?_
    refine hg_iinc2 (v := nI (i + 1)) d_M_again_127 rfl (nI_add _ _) ?_
    refine hg_goto (tgt := 109) d_M_again_130 (by decide) ?_
    refine ih (i + 1) _ (by omega) (hm_k.u22 hq (by omega)) ⟨?_, ?_, ?_, ?_, ?_⟩
    · intro q hq
      refine ⟨?_, ?_, ?_, ?_, ?_, ?_, ?_, ?_⟩
      · (repeat (first | rw [hg_u3k (by decide)] | (rw [hg_u3r]; first | rw [if_pos (by omega)] | rw [if_neg (by omega)]))); exact (h1 q hq).1
      · (repeat (first | rw [hg_u3k (by decide)] | (rw [hg_u3r]; first | rw [if_pos (by omega)] | rw [if_neg (by omega)]))); exact (h1 q hq).2.1
      · (repeat (first | rw [hg_u3k (by decide)] | (rw [hg_u3r]; first | rw [if_pos (by omega)] | rw [if_neg (by omega)]))); exact (h1 q hq).2.2.1
      · (repeat (first | rw [hg_u3k (by decide)] | (rw [hg_u3r]; first | rw [if_pos (by omega)] | rw [if_neg (by omega)]))); exact (h1 q hq).2.2.2.1
      · (repeat (first | rw [hg_u3k (by decide)] | (rw [hg_u3r]; first | rw [if_pos (by omega)] | rw [if_neg (by omega)]))); exact (h1 q hq).2.2.2.2.1
      · (repeat (first | rw [hg_u3k (by decide)] | (rw [hg_u3r]; first | rw [if_pos (by omega)] | rw [if_neg (by omega)]))); exact (h1 q hq).2.2.2.2.2.1
      · (repeat (first | rw [hg_u3k (by decide)] | (rw [hg_u3r]; first | rw [if_pos (by omega)] | rw [if_neg (by omega)]))); exact (h1 q hq).2.2.2.2.2.2.1
      · (repeat (first | rw [hg_u3k (by decide)] | (rw [hg_u3r]; first | rw [if_pos (by omega)] | rw [if_neg (by omega)]))); exact (h1 q hq).2.2.2.2.2.2.2
    · intro q hq
      by_cases e : q = i
      · subst e; clear h1 h2 h3 h4 h5
        · ((repeat (first | rw [hg_u3k (by decide)] | (rw [hg_u3r]; first | rw [if_pos (by omega)] | rw [if_neg (by omega)]))))
      · have hq : q < i := by omega
        · ((repeat (first | rw [hg_u3k (by decide)] | (rw [hg_u3r]; first | rw [if_pos (by omega)] | rw [if_neg (by omega)])))); exact (h2 q hq)
    · exact fun q hq => absurd hq (Nat.not_lt_zero _)
    · exact fun q hq => absurd hq (Nat.not_lt_zero _)
    · exact fun q hq => absurd hq (Nat.not_lt_zero _)
theorem m_M_again23_1 (hX : hg_XS T X) (hR : hg_SR T Rf) : ∀ (k i : Nat) (I1 : Nat → Nat → Nat → Int32), i + k = 6 → hm_k I1 I → hk_P i 0 0 0 0 (I1 22 23) I1 → hg_WP l E (d) Y_M_again 0 0 2 [some (.ref (hg_ad E 21 0)), some (.ref (hg_ad E 22 23)), some (.int (nI i))] [] (I1, Lg, Rf, X) (hg_v (fun M' => ∃ I' : Nat → Nat → Nat → Int32, M' = (I', Lg, Rf, X) ∧ hm_k I' I ∧ hk_P 6 24 5 10 8 (I' 22 23) I' ∧ hk_F (I' 22 23) I')) := by
  intro k
  induction k with
  | zero =>
    intro i I1 hik hq hP
    obtain rfl : i = 6 := by omega
    refine hg_iload2 d_M_again_2 ?_
    refine hg_bipush (v := 6) d_M_again_3 (by decide) ?_
    refine hg_icmp_ge (tgt := 107) d_M_again_5 (by decide) (fun h_1 => ?_) (fun h_1 => absurd (by decide) h_1)
    refine hg_iconst (v := 0) d_M_again_107 (by decide) ?_
    refine hg_istore2 d_M_again_108 rfl ?_
    exact m_M_again23_2 hX hR 24 0 I1 (by omega) hq hP
  | succ k ih =>
    intro i I1 hik hq hP
    obtain ⟨h1, h2, h3, h4, h5⟩ := hP
    refine hg_iload2 d_M_again_2 ?_
    refine hg_bipush (v := 6) d_M_again_3 (by decide) ?_
    refine hg_icmp_ge (tgt := 107) d_M_again_5 (by decide) (fun h_2 => absurd h_2 (nI_ge (a := i) (b := 6) (by omega) (by decide))) (fun h_2 => ?_)
    refine hg_aload0 d_M_again_8 ?_
    refine hg_getR d_M_again_9 f_M_9 rfl rfl (hX.lt (n := 1) ⟨by decide, by decide⟩ rfl (by omega)) (hR.m (j := 1) (q := (22, 0)) rfl) ?_
    refine hg_iload2 d_M_again_12 ?_
    refine hg_aload1 d_M_again_13 ?_
    refine hg_iload2 d_M_again_14 ?_
    refine hg_iald_n (j := i) d_M_again_15 rfl rfl (hX.lt (n := 28) ⟨by decide, by decide⟩ rfl (by omega)) (hX.jn (n := 128) (by decide) rfl (by omega)) ?_
    refine hg_iast_n (j := i) d_M_again_16 rfl rfl (hX.lt (n := 28) ⟨by decide, by decide⟩ rfl (by omega)) (hX.jn (n := 6) (by decide) rfl (by omega)) ?_
    refine hg_aload0 d_M_again_17 ?_
    refine hg_getR d_M_again_18 f_M_15 rfl rfl (hX.lt (n := 1) ⟨by decide, by decide⟩ rfl (by omega)) (hR.m (j := 2) (q := (22, 1)) rfl) ?_
    refine hg_iload2 d_M_again_21 ?_
    refine hg_aload1 d_M_again_22 ?_
    refine hg_bipush (v := 6) d_M_again_23 (by decide) ?_
    refine hg_iload2 d_M_again_25 ?_
    refine hg_iadd d_M_again_26 ?_
    refine hg_eq1 (y := nI (6 + i)) (nI_add _ _) ?_
    refine hg_iald_n (j := (6 + i)) d_M_again_27 rfl rfl (hX.lt (n := 28) ⟨by decide, by decide⟩ rfl (by omega)) (hX.jn (n := 128) (by decide) rfl (by omega)) ?_
    refine hg_eq1 (y := I1 22 23 (6 + i)) (by simp [hg_u3]) ?_
    refine hg_iast_n (j := i) d_M_again_28 rfl rfl (hX.lt (n := 28) ⟨by decide, by decide⟩ rfl (by omega)) (hX.jn (n := 6) (by decide) rfl (by omega)) ?_
    refine hg_aload0 d_M_again_29 ?_
    refine hg_getR d_M_again_30 f_M_18 rfl rfl (hX.lt (n := 1) ⟨by decide, by decide⟩ rfl (by omega)) (hR.m (j := 3) (q := (22, 2)) rfl) ?_
    refine hg_iload2 d_M_again_33 ?_
    refine hg_aload1 d_M_again_34 ?_
    refine hg_bipush (v := 12) d_M_again_35 (by decide) ?_
    refine hg_iload2 d_M_again_37 ?_
    refine hg_iadd d_M_again_38 ?_
    refine hg_eq1 (y := nI (12 + i)) (nI_add _ _) ?_
    refine hg_iald_n (j := (12 + i)) d_M_again_39 rfl rfl (hX.lt (n := 28) ⟨by decide, by decide⟩ rfl (by omega)) (hX.jn (n := 128) (by decide) rfl (by omega)) ?_
    refine hg_eq1 (y := I1 22 23 (12 + i)) (by simp [hg_u3]) ?_
    refine hg_iast_n (j := i) d_M_again_40 rfl rfl (hX.lt (n := 28) ⟨by decide, by decide⟩ rfl (by omega)) (hX.jn (n := 6) (by decide) rfl (by omega)) ?_
    refine hg_aload0 d_M_again_41 ?_
    refine hg_getR d_M_again_42 f_M_21 rfl rfl (hX.lt (n := 1) ⟨by decide, by decide⟩ rfl (by omega)) (hR.m (j := 4) (q := (22, 3)) rfl) ?_
    refine hg_iload2 d_M_again_45 ?_
    refine hg_aload1 d_M_again_46 ?_
    refine hg_bipush (v := 18) d_M_again_47 (by decide) ?_
    refine hg_iload2 d_M_again_49 ?_
    refine hg_iadd d_M_again_50 ?_
    refine hg_eq1 (y := nI (18 + i)) (nI_add _ _) ?_
    refine hg_iald_n (j := (18 + i)) d_M_again_51 rfl rfl (hX.lt (n := 28) ⟨by decide, by decide⟩ rfl (by omega)) (hX.jn (n := 128) (by decide) rfl (by omega)) ?_
    refine hg_eq1 (y := I1 22 23 (18 + i)) (by simp [hg_u3]) ?_
    refine hg_iast_n (j := i) d_M_again_52 rfl rfl (hX.lt (n := 28) ⟨by decide, by decide⟩ rfl (by omega)) (hX.jn (n := 6) (by decide) rfl (by omega)) ?_
    refine hg_aload0 d_M_again_53 ?_
    refine hg_getR d_M_again_54 f_M_24 rfl rfl (hX.lt (n := 1) ⟨by decide, by decide⟩ rfl (by omega)) (hR.m (j := 5) (q := (22, 4)) rfl) ?_
    refine hg_iload2 d_M_again_57 ?_
    refine hg_aload1 d_M_again_58 ?_
    refine hg_bipush (v := 24) d_M_again_59 (by decide) ?_
    refine hg_iload2 d_M_again_61 ?_
    refine hg_iadd d_M_again_62 ?_
    refine hg_eq1 (y := nI (24 + i)) (nI_add _ _) ?_
    refine hg_iald_n (j := (24 + i)) d_M_again_63 rfl rfl (hX.lt (n := 28) ⟨by decide, by decide⟩ rfl (by omega)) (hX.jn (n := 128) (by decide) rfl (by omega)) ?_
    refine hg_eq1 (y := I1 22 23 (24 + i)) (by simp [hg_u3]) ?_
    refine hg_iast_n (j := i) d_M_again_64 rfl rfl (hX.lt (n := 28) ⟨by decide, by decide⟩ rfl (by omega)) (hX.jn (n := 6) (by decide) rfl (by omega)) ?_
    refine hg_aload0 d_M_again_65 ?_
    refine hg_getR d_M_again_66 f_M_27 rfl rfl (hX.lt (n := 1) ⟨by decide, by decide⟩ rfl (by omega)) (hR.m (j := 6) (q := (22, 5)) rfl) ?_
    refine hg_iload2 d_M_again_69 ?_
    refine hg_aload1 d_M_again_70 ?_
    refine hg_bipush (v := 30) d_M_again_71 (by decide) ?_
    refine hg_iload2 d_M_again_73 ?_
    refine hg_iadd d_M_again_74 ?_
    refine hg_eq1 (y := nI (30 + i)) (nI_add _ _) ?_
    refine hg_iald_n (j := (30 + i)) d_M_again_75 rfl rfl (hX.lt (n := 28) ⟨by decide, by decide⟩ rfl (by omega)) (hX.jn (n := 128) (by decide) rfl (by omega)) ?_
    refine hg_eq1 (y := I1 22 23 (30 + i)) (by simp [hg_u3]) ?_
    refine hg_iast_n (j := i) d_M_again_76 rfl rfl (hX.lt (n := 28) ⟨by decide, by decide⟩ rfl (by omega)) (hX.jn (n := 6) (by decide) rfl (by omega)) ?_
    refine hg_aload0 d_M_again_77 ?_
    refine hg_getR d_M_again_78 f_M_30 rfl rfl (hX.lt (n := 1) ⟨by decide, by decide⟩ rfl (by omega)) (hR.m (j := 7) (q := (22, 6)) rfl) ?_
    refine hg_iload2 d_M_again_81 ?_
    refine hg_aload1 d_M_again_82 ?_
    refine hg_bipush (v := 36) d_M_again_83 (by decide) ?_
    refine hg_iload2 d_M_again_85 ?_
    refine hg_iadd d_M_again_86 ?_
    refine hg_eq1 (y := nI (36 + i)) (nI_add _ _) ?_
    refine hg_iald_n (j := (36 + i)) d_M_again_87 rfl rfl (hX.lt (n := 28) ⟨by decide, by decide⟩ rfl (by omega)) (hX.jn (n := 128) (by decide) rfl (by omega)) ?_
    refine hg_eq1 (y := I1 22 23 (36 + i)) (by simp [hg_u3]) ?_
    refine hg_iast_n (j := i) d_M_again_88 rfl rfl (hX.lt (n := 28) ⟨by decide, by decide⟩ rfl (by omega)) (hX.jn (n := 6) (by decide) rfl (by omega)) ?_
    refine hg_aload0 d_M_again_89 ?_
    refine hg_getR d_M_again_90 f_M_36 rfl rfl (hX.lt (n := 1) ⟨by decide, by decide⟩ rfl (by omega)) (hR.m (j := 9) (q := (22, 8)) rfl) ?_
    refine hg_iload2 d_M_again_93 ?_
    refine hg_aload1 d_M_again_94 ?_
    refine hg_bipush (v := 42) d_M_again_95 (by decide) ?_
    refine hg_iload2 d_M_again_97 ?_
    refine hg_iadd d_M_again_98 ?_
    refine hg_eq1 (y := nI (42 + i)) (nI_add _ _) ?_
    refine hg_iald_n (j := (42 + i)) d_M_again_99 rfl rfl (hX.lt (n := 28) ⟨by decide, by decide⟩ rfl (by omega)) (hX.jn (n := 128) (by decide) rfl (by omega)) ?_
    refine hg_eq1 (y := I1 22 23 (42 + i)) (by simp [hg_u3]) ?_
    refine hg_iast_n (j := i) d_M_again_100 rfl rfl (hX.lt (n := 28) ⟨by decide, by decide⟩ rfl (by omega)) (hX.jn (n := 6) (by decide) rfl (by omega)) ?_
    refine hg_iinc2 (v := nI (i + 1)) d_M_again_101 rfl (nI_add _ _) ?_
    refine hg_goto (tgt := 2) d_M_again_104 (by decide) ?_
    refine ih (i + 1) _ (by omega) (hm_k.u22 (hm_k.u22 (hm_k.u22 (hm_k.u22 (hm_k.u22 (hm_k.u22 (hm_k.u22 (hm_k.u22 hq (by omega)) (by omega)) (by omega)) (by omega)) (by omega)) (by omega)) (by omega)) (by omega)) ⟨?_, ?_, ?_, ?_, ?_⟩
    · intro q hq
      by_cases e : q = i
      · subst e; clear h1 h2 h3 h4 h5
        refine ⟨?_, ?_, ?_, ?_, ?_, ?_, ?_, ?_⟩
        · ((repeat (first | rw [hg_u3k (by decide)] | (rw [hg_u3r]; first | rw [if_pos (by omega)] | rw [if_neg (by omega)]))))
        · ((repeat (first | rw [hg_u3k (by decide)] | (rw [hg_u3r]; first | rw [if_pos (by omega)] | rw [if_neg (by omega)]))))
        · ((repeat (first | rw [hg_u3k (by decide)] | (rw [hg_u3r]; first | rw [if_pos (by omega)] | rw [if_neg (by omega)]))))
        · ((repeat (first | rw [hg_u3k (by decide)] | (rw [hg_u3r]; first | rw [if_pos (by omega)] | rw [if_neg (by omega)]))))
        · ((repeat (first | rw [hg_u3k (by decide)] | (rw [hg_u3r]; first | rw [if_pos (by omega)] | rw [if_neg (by omega)]))))
        · ((repeat (first | rw [hg_u3k (by decide)] | (rw [hg_u3r]; first | rw [if_pos (by omega)] | rw [if_neg (by omega)]))))
        · ((repeat (first | rw [hg_u3k (by decide)] | (rw [hg_u3r]; first | rw [if_pos (by omega)] | rw [if_neg (by omega)]))))
        · ((repeat (first | rw [hg_u3k (by decide)] | (rw [hg_u3r]; first | rw [if_pos (by omega)] | rw [if_neg (by omega)]))))
      · have hq : q < i := by omega
        refine ⟨?_, ?_, ?_, ?_, ?_, ?_, ?_, ?_⟩
        · ((repeat (first | rw [hg_u3k (by decide)] | (rw [hg_u3r]; first | rw [if_pos (by omega)] | rw [if_neg (by omega)])))); exact (h1 q hq).1
        · ((repeat (first | rw [hg_u3k (by decide)] | (rw [hg_u3r]; first | rw [if_pos (by omega)] | rw [if_neg (by omega)])))); exact (h1 q hq).2.1
        · ((repeat (first | rw [hg_u3k (by decide)] | (rw [hg_u3r]; first | rw [if_pos (by omega)] | rw [if_neg (by omega)])))); exact (h1 q hq).2.2.1
        · ((repeat (first | rw [hg_u3k (by decide)] | (rw [hg_u3r]; first | rw [if_pos (by omega)] | rw [if_neg (by omega)])))); exact (h1 q hq).2.2.2.1
        · ((repeat (first | rw [hg_u3k (by decide)] | (rw [hg_u3r]; first | rw [if_pos (by omega)] | rw [if_neg (by omega)])))); exact (h1 q hq).2.2.2.2.1
        · ((repeat (first | rw [hg_u3k (by decide)] | (rw [hg_u3r]; first | rw [if_pos (by omega)] | rw [if_neg (by omega)])))); exact (h1 q hq).2.2.2.2.2.1
        · ((repeat (first | rw [hg_u3k (by decide)] | (rw [hg_u3r]; first | rw [if_pos (by omega)] | rw [if_neg (by omega)])))); exact (h1 q hq).2.2.2.2.2.2.1
        · ((repeat (first | rw [hg_u3k (by decide)] | (rw [hg_u3r]; first | rw [if_pos (by omega)] | rw [if_neg (by omega)])))); exact (h1 q hq).2.2.2.2.2.2.2
    · exact fun q hq => absurd hq (Nat.not_lt_zero _)
    · exact fun q hq => absurd hq (Nat.not_lt_zero _)
    · exact fun q hq => absurd hq (Nat.not_lt_zero _)
    · exact fun q hq => absurd hq (Nat.not_lt_zero _)
theorem m_M_again23 (hX : hg_XS T X) (hR : hg_SR T Rf) : hg_MC l E (d + 1) Y_M_again 0 0 [.ref (hg_ad E 21 0), .ref (hg_ad E 22 23)] (I, Lg, Rf, X) (hg_v (fun M' => ∃ I' : Nat → Nat → Nat → Int32, M' = (I', Lg, Rf, X) ∧ hm_k I' I ∧ hk_P 6 24 5 10 8 (I' 22 23) I' ∧ hk_F (I' 22 23) I')) := by
  refine hg_mc k_M_again (Nat.le_of_ble_eq_true rfl) ?_
  show hg_WP l E _ Y_M_again 0 0 0 [some (.ref (hg_ad E 21 0)), some (.ref (hg_ad E 22 23)), none] [] (I, Lg, Rf, X) _
  refine hg_iconst (v := 0) d_M_again_0 (by decide) ?_
  refine hg_istore2 d_M_again_1 rfl ?_
  exact m_M_again23_1 hX hR 6 0 I (by omega) hm_k.rf ⟨fun q hq => absurd hq (Nat.not_lt_zero _), fun q hq => absurd hq (Nat.not_lt_zero _), fun q hq => absurd hq (Nat.not_lt_zero _), fun q hq => absurd hq (Nat.not_lt_zero _), fun q hq => absurd hq (Nat.not_lt_zero _)⟩

theorem m_M_keep24_6 (hX : hg_XS T X) (hR : hg_SR T Rf) {a2 : Option Value} (hq : hk_r 24 I1 I) (hP : hk_P 6 24 5 10 8 (I1 22 24) I1) : hg_WP l E (d) Y_M_keep 0 0 246 [some (.ref (hg_ad E 21 0)), some (.ref (hg_ad E 22 24)), a2] [] (I1, Lg, Rf, X) (hg_v (fun M' => ∃ I' : Nat → Nat → Nat → Int32, M' = (I', Lg, Rf, X) ∧ hk_r 24 I' I ∧ hk_P 6 24 5 10 8 (I' 22 24) I' ∧ hk_F (I' 22 24) I')) := by
  refine hg_aload1 d_M_keep_246 ?_
  refine hg_bipush (v := 118) d_M_keep_247 (by decide) ?_
  refine hg_aload0 d_M_keep_249 ?_
  refine hg_getI d_M_keep_250 f_M_108 rfl rfl (hX.lt (n := 1) ⟨by decide, by decide⟩ rfl (by omega)) ?_
  refine hg_iast_n (j := 118) d_M_keep_253 rfl rfl (hX.lt (n := 28) ⟨by decide, by decide⟩ rfl (by omega)) (hX.jn (n := 128) (by decide) rfl (by omega)) ?_
  refine hg_aload1 d_M_keep_254 ?_
  refine hg_bipush (v := 119) d_M_keep_255 (by decide) ?_
  refine hg_aload0 d_M_keep_257 ?_
  refine hg_getI d_M_keep_258 f_M_236 rfl rfl (hX.lt (n := 1) ⟨by decide, by decide⟩ rfl (by omega)) ?_
  refine hg_eq1 (y := I1 21 0 10) (by simp [hg_u3]) ?_
  refine hg_iast_n (j := 119) d_M_keep_261 rfl rfl (hX.lt (n := 28) ⟨by decide, by decide⟩ rfl (by omega)) (hX.jn (n := 128) (by decide) rfl (by omega)) ?_
  refine hg_aload1 d_M_keep_262 ?_
  refine hg_bipush (v := 120) d_M_keep_263 (by decide) ?_
  refine hg_aload0 d_M_keep_265 ?_
  refine hg_getI d_M_keep_266 f_M_248 rfl rfl (hX.lt (n := 1) ⟨by decide, by decide⟩ rfl (by omega)) ?_
  refine hg_eq1 (y := I1 21 0 11) (by simp [hg_u3]) ?_
  refine hg_iast_n (j := 120) d_M_keep_269 rfl rfl (hX.lt (n := 28) ⟨by decide, by decide⟩ rfl (by omega)) (hX.jn (n := 128) (by decide) rfl (by omega)) ?_
  refine hg_aload1 d_M_keep_270 ?_
  refine hg_bipush (v := 121) d_M_keep_271 (by decide) ?_
  refine hg_aload0 d_M_keep_273 ?_
  refine hg_getI d_M_keep_274 f_M_251 rfl rfl (hX.lt (n := 1) ⟨by decide, by decide⟩ rfl (by omega)) ?_
  refine hg_eq1 (y := I1 21 0 12) (by simp [hg_u3]) ?_
  refine hg_iast_n (j := 121) d_M_keep_277 rfl rfl (hX.lt (n := 28) ⟨by decide, by decide⟩ rfl (by omega)) (hX.jn (n := 128) (by decide) rfl (by omega)) ?_
  refine hg_aload1 d_M_keep_278 ?_
  refine hg_bipush (v := 122) d_M_keep_279 (by decide) ?_
  refine hg_aload0 d_M_keep_281 ?_
  refine hg_getI d_M_keep_282 f_M_214 rfl rfl (hX.lt (n := 1) ⟨by decide, by decide⟩ rfl (by omega)) ?_
  refine hg_eq1 (y := I1 21 0 13) (by simp [hg_u3]) ?_
  refine hg_iast_n (j := 122) d_M_keep_285 rfl rfl (hX.lt (n := 28) ⟨by decide, by decide⟩ rfl (by omega)) (hX.jn (n := 128) (by decide) rfl (by omega)) ?_
  refine hg_aload1 d_M_keep_286 ?_
  refine hg_bipush (v := 123) d_M_keep_287 (by decide) ?_
  refine hg_aload0 d_M_keep_289 ?_
  refine hg_getI d_M_keep_290 f_M_282 rfl rfl (hX.lt (n := 1) ⟨by decide, by decide⟩ rfl (by omega)) ?_
  refine hg_eq1 (y := I1 21 0 30) (by simp [hg_u3]) ?_
  refine hg_iast_n (j := 123) d_M_keep_293 rfl rfl (hX.lt (n := 28) ⟨by decide, by decide⟩ rfl (by omega)) (hX.jn (n := 128) (by decide) rfl (by omega)) ?_
  refine hg_aload1 d_M_keep_294 ?_
  refine hg_bipush (v := 124) d_M_keep_295 (by decide) ?_
  refine hg_aload0 d_M_keep_297 ?_
  refine hg_getI d_M_keep_298 f_M_294 rfl rfl (hX.lt (n := 1) ⟨by decide, by decide⟩ rfl (by omega)) ?_
  refine hg_eq1 (y := I1 21 0 33) (by simp [hg_u3]) ?_
  refine hg_iast_n (j := 124) d_M_keep_301 rfl rfl (hX.lt (n := 28) ⟨by decide, by decide⟩ rfl (by omega)) (hX.jn (n := 128) (by decide) rfl (by omega)) ?_
  refine hg_aload1 d_M_keep_302 ?_
  refine hg_bipush (v := 125) d_M_keep_303 (by decide) ?_
  refine hg_aload0 d_M_keep_305 ?_
  refine hg_getI d_M_keep_306 f_M_297 rfl rfl (hX.lt (n := 1) ⟨by decide, by decide⟩ rfl (by omega)) ?_
  refine hg_eq1 (y := I1 21 0 36) (by simp [hg_u3]) ?_
  refine hg_iast_n (j := 125) d_M_keep_309 rfl rfl (hX.lt (n := 28) ⟨by decide, by decide⟩ rfl (by omega)) (hX.jn (n := 128) (by decide) rfl (by omega)) ?_
  refine hg_aload1 d_M_keep_310 ?_
  refine hg_bipush (v := 126) d_M_keep_311 (by decide) ?_
  refine hg_aload0 d_M_keep_313 ?_
  refine hg_getI d_M_keep_314 f_M_104 rfl rfl (hX.lt (n := 1) ⟨by decide, by decide⟩ rfl (by omega)) ?_
  refine hg_eq1 (y := I1 21 0 21) (by simp [hg_u3]) ?_
  refine hg_iast_n (j := 126) d_M_keep_317 rfl rfl (hX.lt (n := 28) ⟨by decide, by decide⟩ rfl (by omega)) (hX.jn (n := 128) (by decide) rfl (by omega)) ?_
  obtain ⟨h1, h2, h3, h4, h5⟩ := hP
  refine hg_return d_M_keep_318 rfl ?_
  refine ⟨_, rfl, (((((((((hq.u).u).u).u).u).u).u).u).u), ⟨?_, ?_, ?_, ?_, ?_⟩, ⟨?_, ?_, ?_, ?_, ?_, ?_, ?_, ?_, ?_⟩⟩
  · intro q hq
    refine ⟨?_, ?_, ?_, ?_, ?_, ?_, ?_, ?_⟩
    · (repeat (first | rw [hg_u3k (by decide)] | (rw [hg_u3r]; first | rw [if_pos (by omega)] | rw [if_neg (by omega)]))); exact (h1 q hq).1
    · (repeat (first | rw [hg_u3k (by decide)] | (rw [hg_u3r]; first | rw [if_pos (by omega)] | rw [if_neg (by omega)]))); exact (h1 q hq).2.1
    · (repeat (first | rw [hg_u3k (by decide)] | (rw [hg_u3r]; first | rw [if_pos (by omega)] | rw [if_neg (by omega)]))); exact (h1 q hq).2.2.1
    · (repeat (first | rw [hg_u3k (by decide)] | (rw [hg_u3r]; first | rw [if_pos (by omega)] | rw [if_neg (by omega)]))); exact (h1 q hq).2.2.2.1
    · (repeat (first | rw [hg_u3k (by decide)] | (rw [hg_u3r]; first | rw [if_pos (by omega)] | rw [if_neg (by omega)]))); exact (h1 q hq).2.2.2.2.1
    · (repeat (first | rw [hg_u3k (by decide)] | (rw [hg_u3r]; first | rw [if_pos (by omega)] | rw [if_neg (by omega)]))); exact (h1 q hq).2.2.2.2.2.1
    · (repeat (first | rw [hg_u3k (by decide)] | (rw [hg_u3r]; first | rw [if_pos (by omega)] | rw [if_neg (by omega)]))); exact (h1 q hq).2.2.2.2.2.2.1
    · (repeat (first | rw [hg_u3k (by decide)] | (rw [hg_u3r]; first | rw [if_pos (by omega)] | rw [if_neg (by omega)]))); exact (h1 q hq).2.2.2.2.2.2.2
  · intro q hq
    (repeat (first | rw [hg_u3k (by decide)] | (rw [hg_u3r]; first | rw [if_pos (by omega)] | rw [if_neg (by omega)]))); exact (h2 q hq)
  · intro q hq
    refine ⟨?_, ?_⟩
    · (repeat (first | rw [hg_u3k (by decide)] | (rw [hg_u3r]; first | rw [if_pos (by omega)] | rw [if_neg (by omega)]))); exact (h3 q hq).1
    · (repeat (first | rw [hg_u3k (by decide)] | (rw [hg_u3r]; first | rw [if_pos (by omega)] | rw [if_neg (by omega)]))); exact (h3 q hq).2
  · intro q hq
    refine ⟨?_, ?_⟩
    · (repeat (first | rw [hg_u3k (by decide)] | (rw [hg_u3r]; first | rw [if_pos (by omega)] | rw [if_neg (by omega)]))); exact (h4 q hq).1
    · (repeat (first | rw [hg_u3k (by decide)] | (rw [hg_u3r]; first | rw [if_pos (by omega)] | rw [if_neg (by omega)]))); exact (h4 q hq).2
  · intro q hq
    refine ⟨?_, ?_⟩
    · (repeat (first | rw [hg_u3k (by decide)] | (rw [hg_u3r]; first | rw [if_pos (by omega)] | rw [if_neg (by omega)]))); exact (h5 q hq).1
    · (repeat (first | rw [hg_u3k (by decide)] | (rw [hg_u3r]; first | rw [if_pos (by omega)] | rw [if_neg (by omega)]))); exact (h5 q hq).2
  · ((repeat (first | rw [hg_u3k (by decide)] | (rw [hg_u3r]; first | rw [if_pos (by omega)] | rw [if_neg (by omega)]))))
  · ((repeat (first | rw [hg_u3k (by decide)] | (rw [hg_u3r]; first | rw [if_pos (by omega)] | rw [if_neg (by omega)]))))
  · ((repeat (first | rw [hg_u3k (by decide)] | (rw [hg_u3r]; first | rw [if_pos (by omega)] | rw [if_neg (by omega)]))))
  · ((repeat (first | rw [hg_u3k (by decide)] | (rw [hg_u3r]; first | rw [if_pos (by omega)] | rw [if_neg (by omega)]))))
  · ((repeat (first | rw [hg_u3k (by decide)] | (rw [hg_u3r]; first | rw [if_pos (by omega)] | rw [if_neg (by omega)]))))
  · ((repeat (first | rw [hg_u3k (by decide)] | (rw [hg_u3r]; first | rw [if_pos (by omega)] | rw [if_neg (by omega)]))))
  · ((repeat (first | rw [hg_u3k (by decide)] | (rw [hg_u3r]; first | rw [if_pos (by omega)] | rw [if_neg (by omega)]))))
  · ((repeat (first | rw [hg_u3k (by decide)] | (rw [hg_u3r]; first | rw [if_pos (by omega)] | rw [if_neg (by omega)]))))
  · ((repeat (first | rw [hg_u3k (by decide)] | (rw [hg_u3r]; first | rw [if_pos (by omega)] | rw [if_neg (by omega)]))))
theorem m_M_keep24_5 (hX : hg_XS T X) (hR : hg_SR T Rf) : ∀ (k i : Nat) (I1 : Nat → Nat → Nat → Int32), i + k = 8 → hk_r 24 I1 I → hk_P 6 24 5 10 i (I1 22 24) I1 → hg_WP l E (d) Y_M_keep 0 0 210 [some (.ref (hg_ad E 21 0)), some (.ref (hg_ad E 22 24)), some (.int (nI i))] [] (I1, Lg, Rf, X) (hg_v (fun M' => ∃ I' : Nat → Nat → Nat → Int32, M' = (I', Lg, Rf, X) ∧ hk_r 24 I' I ∧ hk_P 6 24 5 10 8 (I' 22 24) I' ∧ hk_F (I' 22 24) I')) := by
  intro k
  induction k with
  | zero =>
    intro i I1 hik hq hP
    obtain rfl : i = 8 := by omega
    refine hg_iload2 d_M_keep_210 ?_
    refine hg_bipush (v := 8) d_M_keep_211 (by decide) ?_
    refine hg_icmp_ge (tgt := 246) d_M_keep_213 (by decide) (fun h_1 => ?_) (fun h_1 => absurd (by decide) h_1)
    exact m_M_keep24_6 hX hR hq hP
  | succ k ih =>
    intro i I1 hik hq hP
    obtain ⟨h1, h2, h3, h4, h5⟩ := hP
    refine hg_iload2 d_M_keep_210 ?_
    refine hg_bipush (v := 8) d_M_keep_211 (by decide) ?_
    refine hg_icmp_ge (tgt := 246) d_M_keep_213 (by decide) (fun h_2 => absurd h_2 (nI_ge (a := i) (b := 8) (by omega) (by decide))) (fun h_2 => ?_)
    refine hg_aload1 d_M_keep_216 ?_
    refine hg_bipush (v := 102) d_M_keep_217 (by decide) ?_
    refine hg_iload2 d_M_keep_219 ?_
    refine hg_iadd d_M_keep_220 ?_
    refine hg_eq1 (y := nI (102 + i)) (nI_add _ _) ?_
    refine hg_aload0 d_M_keep_221 ?_
    refine hg_getR d_M_keep_222 f_M_76 rfl rfl (hX.lt (n := 1) ⟨by decide, by decide⟩ rfl (by omega)) (hR.m (j := 37) (q := (22, 20)) rfl) ?_
    refine hg_iload2 d_M_keep_225 ?_
    refine hg_iald_n (j := i) d_M_keep_226 rfl rfl (hX.lt (n := 28) ⟨by decide, by decide⟩ rfl (by omega)) (hX.jn (n := 8) (by decide) rfl (by omega)) ?_
    refine hg_iast_n (j := (102 + i)) d_M_keep_227 rfl rfl (hX.lt (n := 28) ⟨by decide, by decide⟩ rfl (by omega)) (hX.jn (n := 128) (by decide) rfl (by omega)) ?_
    refine hg_aload1 d_M_keep_228 ?_
    refine hg_bipush (v := 110) d_M_keep_229 (by decide) ?_
    refine hg_iload2 d_M_keep_231 ?_
    refine hg_iadd d_M_keep_232 ?_
    refine hg_eq1 (y := nI (110 + i)) (nI_add _ _) ?_
    refine hg_aload0 d_M_keep_233 ?_
    refine hg_getR d_M_keep_234 f_M_79 rfl rfl (hX.lt (n := 1) ⟨by decide, by decide⟩ rfl (by omega)) (hR.m (j := 38) (q := (22, 21)) rfl) ?_
    refine hg_iload2 d_M_keep_237 ?_
    refine hg_iald_n (j := i) d_M_keep_238 rfl rfl (hX.lt (n := 28) ⟨by decide, by decide⟩ rfl (by omega)) (hX.jn (n := 8) (by decide) rfl (by omega)) ?_
    refine hg_eq1 (y := I1 22 21 i) (by simp [hg_u3]) ?_
    refine hg_iast_n (j := (110 + i)) d_M_keep_239 rfl rfl (hX.lt (n := 28) ⟨by decide, by decide⟩ rfl (by omega)) (hX.jn (n := 128) (by decide) rfl (by omega)) ?_
    refine hg_iinc2 (v := nI (i + 1)) d_M_keep_240 rfl (nI_add _ _) ?_
    refine hg_goto (tgt := 210) d_M_keep_243 (by decide) ?_
    refine ih (i + 1) _ (by omega) ((hq.u).u) ⟨?_, ?_, ?_, ?_, ?_⟩
    · intro q hq
      refine ⟨?_, ?_, ?_, ?_, ?_, ?_, ?_, ?_⟩
      · (repeat (first | rw [hg_u3k (by decide)] | (rw [hg_u3r]; first | rw [if_pos (by omega)] | rw [if_neg (by omega)]))); exact (h1 q hq).1
      · (repeat (first | rw [hg_u3k (by decide)] | (rw [hg_u3r]; first | rw [if_pos (by omega)] | rw [if_neg (by omega)]))); exact (h1 q hq).2.1
      · (repeat (first | rw [hg_u3k (by decide)] | (rw [hg_u3r]; first | rw [if_pos (by omega)] | rw [if_neg (by omega)]))); exact (h1 q hq).2.2.1
      · (repeat (first | rw [hg_u3k (by decide)] | (rw [hg_u3r]; first | rw [if_pos (by omega)] | rw [if_neg (by omega)]))); exact (h1 q hq).2.2.2.1
      · (repeat (first | rw [hg_u3k (by decide)] | (rw [hg_u3r]; first | rw [if_pos (by omega)] | rw [if_neg (by omega)]))); exact (h1 q hq).2.2.2.2.1
      · (repeat (first | rw [hg_u3k (by decide)] | (rw [hg_u3r]; first | rw [if_pos (by omega)] | rw [if_neg (by omega)]))); exact (h1 q hq).2.2.2.2.2.1
      · (repeat (first | rw [hg_u3k (by decide)] | (rw [hg_u3r]; first | rw [if_pos (by omega)] | rw [if_neg (by omega)]))); exact (h1 q hq).2.2.2.2.2.2.1
      · (repeat (first | rw [hg_u3k (by decide)] | (rw [hg_u3r]; first | rw [if_pos (by omega)] | rw [if_neg (by omega)]))); exact (h1 q hq).2.2.2.2.2.2.2
    · intro q hq
      (repeat (first | rw [hg_u3k (by decide)] | (rw [hg_u3r]; first | rw [if_pos (by omega)] | rw [if_neg (by omega)]))); exact (h2 q hq)
    · intro q hq
      refine ⟨?_, ?_⟩
      · (repeat (first | rw [hg_u3k (by decide)] | (rw [hg_u3r]; first | rw [if_pos (by omega)] | rw [if_neg (by omega)]))); exact (h3 q hq).1
      · (repeat (first | rw [hg_u3k (by decide)] | (rw [hg_u3r]; first | rw [if_pos (by omega)] | rw [if_neg (by omega)]))); exact (h3 q hq).2
    · intro q hq
      refine ⟨?_, ?_⟩
      · (repeat (first | rw [hg_u3k (by decide)] | (rw [hg_u3r]; first | rw [if_pos (by omega)] | rw [if_neg (by omega)]))); exact (h4 q hq).1
      · (repeat (first | rw [hg_u3k (by decide)] | (rw [hg_u3r]; first | rw [if_pos (by omega)] | rw [if_neg (by omega)]))); exact (h4 q hq).2
    · intro q hq
      by_cases e : q = i
      · subst e; clear h1 h2 h3 h4 h5
        refine ⟨?_, ?_⟩
        · ((repeat (first | rw [hg_u3k (by decide)] | (rw [hg_u3r]; first | rw [if_pos (by omega)] | rw [if_neg (by omega)]))))
        · ((repeat (first | rw [hg_u3k (by decide)] | (rw [hg_u3r]; first | rw [if_pos (by omega)] | rw [if_neg (by omega)]))))
      · have hq : q < i := by omega
        refine ⟨?_, ?_⟩
        · ((repeat (first | rw [hg_u3k (by decide)] | (rw [hg_u3r]; first | rw [if_pos (by omega)] | rw [if_neg (by omega)])))); exact (h5 q hq).1
        · ((repeat (first | rw [hg_u3k (by decide)] | (rw [hg_u3r]; first | rw [if_pos (by omega)] | rw [if_neg (by omega)])))); exact (h5 q hq).2
theorem m_M_keep24_4 (hX : hg_XS T X) (hR : hg_SR T Rf) : ∀ (k i : Nat) (I1 : Nat → Nat → Nat → Int32), i + k = 10 → hk_r 24 I1 I → hk_P 6 24 5 i 0 (I1 22 24) I1 → hg_WP l E (d) Y_M_keep 0 0 172 [some (.ref (hg_ad E 21 0)), some (.ref (hg_ad E 22 24)), some (.int (nI i))] [] (I1, Lg, Rf, X) (hg_v (fun M' => ∃ I' : Nat → Nat → Nat → Int32, M' = (I', Lg, Rf, X) ∧ hk_r 24 I' I ∧ hk_P 6 24 5 10 8 (I' 22 24) I' ∧ hk_F (I' 22 24) I')) := by
  intro k
  induction k with
  | zero =>
    intro i I1 hik hq hP
    obtain rfl : i = 10 := by omega
    refine hg_iload2 d_M_keep_172 ?_
    refine hg_bipush (v := 10) d_M_keep_173 (by decide) ?_
    refine hg_icmp_ge (tgt := 208) d_M_keep_175 (by decide) (fun h_1 => ?_) (fun h_1 => absurd (by decide) h_1)
    refine hg_iconst (v := 0) d_M_keep_208 (by decide) ?_
    refine hg_istore2 d_M_keep_209 rfl ?_
    exact m_M_keep24_5 hX hR 8 0 I1 (by omega) hq hP
  | succ k ih =>
    intro i I1 hik hq hP
    obtain ⟨h1, h2, h3, h4, h5⟩ := hP
    refine hg_iload2 d_M_keep_172 ?_
    refine hg_bipush (v := 10) d_M_keep_173 (by decide) ?_
    refine hg_icmp_ge (tgt := 208) d_M_keep_175 (by decide) (fun h_2 => absurd h_2 (nI_ge (a := i) (b := 10) (by omega) (by decide))) (fun h_2 => ?_)
    refine hg_aload1 d_M_keep_178 ?_
    refine hg_bipush (v := 82) d_M_keep_179 (by decide) ?_
    refine hg_iload2 d_M_keep_181 ?_
    refine hg_iadd d_M_keep_182 ?_
    refine hg_eq1 (y := nI (82 + i)) (nI_add _ _) ?_
    refine hg_aload0 d_M_keep_183 ?_
    refine hg_getR d_M_keep_184 f_M_70 rfl rfl (hX.lt (n := 1) ⟨by decide, by decide⟩ rfl (by omega)) (hR.m (j := 34) (q := (22, 18)) rfl) ?_
    refine hg_iload2 d_M_keep_187 ?_
    refine hg_iald_n (j := i) d_M_keep_188 rfl rfl (hX.lt (n := 28) ⟨by decide, by decide⟩ rfl (by omega)) (hX.jn (n := 10) (by decide) rfl (by omega)) ?_
    refine hg_iast_n (j := (82 + i)) d_M_keep_189 rfl rfl (hX.lt (n := 28) ⟨by decide, by decide⟩ rfl (by omega)) (hX.jn (n := 128) (by decide) rfl (by omega)) ?_
    refine hg_aload1 d_M_keep_190 ?_
    refine hg_bipush (v := 92) d_M_keep_191 (by decide) ?_
    refine hg_iload2 d_M_keep_193 ?_
    refine hg_iadd d_M_keep_194 ?_
    refine hg_eq1 (y := nI (92 + i)) (nI_add _ _) ?_
    refine hg_aload0 d_M_keep_195 ?_
    refine hg_getR d_M_keep_196 f_M_73 rfl rfl (hX.lt (n := 1) ⟨by decide, by decide⟩ rfl (by omega)) (hR.m (j := 35) (q := (22, 19)) rfl) ?_
    refine hg_iload2 d_M_keep_199 ?_
    refine hg_iald_n (j := i) d_M_keep_200 rfl rfl (hX.lt (n := 28) ⟨by decide, by decide⟩ rfl (by omega)) (hX.jn (n := 10) (by decide) rfl (by omega)) ?_
    refine hg_eq1 (y := I1 22 19 i) (by simp [hg_u3]) ?_
    refine hg_iast_n (j := (92 + i)) d_M_keep_201 rfl rfl (hX.lt (n := 28) ⟨by decide, by decide⟩ rfl (by omega)) (hX.jn (n := 128) (by decide) rfl (by omega)) ?_
    refine hg_iinc2 (v := nI (i + 1)) d_M_keep_202 rfl (nI_add _ _) ?_
    refine hg_goto (tgt := 172) d_M_keep_205 (by decide) ?_
    refine ih (i + 1) _ (by omega) ((hq.u).u) ⟨?_, ?_, ?_, ?_, ?_⟩
    · intro q hq
      refine ⟨?_, ?_, ?_, ?_, ?_, ?_, ?_, ?_⟩
      · (repeat (first | rw [hg_u3k (by decide)] | (rw [hg_u3r]; first | rw [if_pos (by omega)] | rw [if_neg (by omega)]))); exact (h1 q hq).1
      · (repeat (first | rw [hg_u3k (by decide)] | (rw [hg_u3r]; first | rw [if_pos (by omega)] | rw [if_neg (by omega)]))); exact (h1 q hq).2.1
      · (repeat (first | rw [hg_u3k (by decide)] | (rw [hg_u3r]; first | rw [if_pos (by omega)] | rw [if_neg (by omega)]))); exact (h1 q hq).2.2.1
      · (repeat (first | rw [hg_u3k (by decide)] | (rw [hg_u3r]; first | rw [if_pos (by omega)] | rw [if_neg (by omega)]))); exact (h1 q hq).2.2.2.1
      · (repeat (first | rw [hg_u3k (by decide)] | (rw [hg_u3r]; first | rw [if_pos (by omega)] | rw [if_neg (by omega)]))); exact (h1 q hq).2.2.2.2.1
      · (repeat (first | rw [hg_u3k (by decide)] | (rw [hg_u3r]; first | rw [if_pos (by omega)] | rw [if_neg (by omega)]))); exact (h1 q hq).2.2.2.2.2.1
      · (repeat (first | rw [hg_u3k (by decide)] | (rw [hg_u3r]; first | rw [if_pos (by omega)] | rw [if_neg (by omega)]))); exact (h1 q hq).2.2.2.2.2.2.1
      · (repeat (first | rw [hg_u3k (by decide)] | (rw [hg_u3r]; first | rw [if_pos (by omega)] | rw [if_neg (by omega)]))); exact (h1 q hq).2.2.2.2.2.2.2
    · intro q hq
      (repeat (first | rw [hg_u3k (by decide)] | (rw [hg_u3r]; first | rw [if_pos (by omega)] | rw [if_neg (by omega)]))); exact (h2 q hq)
    · intro q hq
      refine ⟨?_, ?_⟩
      · (repeat (first | rw [hg_u3k (by decide)] | (rw [hg_u3r]; first | rw [if_pos (by omega)] | rw [if_neg (by omega)]))); exact (h3 q hq).1
      · (repeat (first | rw [hg_u3k (by decide)] | (rw [hg_u3r]; first | rw [if_pos (by omega)] | rw [if_neg (by omega)]))); exact (h3 q hq).2
    · intro q hq
      by_cases e : q = i
      · subst e; clear h1 h2 h3 h4 h5
        refine ⟨?_, ?_⟩
        · ((repeat (first | rw [hg_u3k (by decide)] | (rw [hg_u3r]; first | rw [if_pos (by omega)] | rw [if_neg (by omega)]))))
        · ((repeat (first | rw [hg_u3k (by decide)] | (rw [hg_u3r]; first | rw [if_pos (by omega)] | rw [if_neg (by omega)]))))
      · have hq : q < i := by omega
        refine ⟨?_, ?_⟩
        · ((repeat (first | rw [hg_u3k (by decide)] | (rw [hg_u3r]; first | rw [if_pos (by omega)] | rw [if_neg (by omega)])))); exact (h4 q hq).1
        · ((repeat (first | rw [hg_u3k (by decide)] | (rw [hg_u3r]; first | rw [if_pos (by omega)] | rw [if_neg (by omega)])))); exact (h4 q hq).2
    · exact fun q hq => absurd hq (Nat.not_lt_zero _)
theorem m_M_keep24_3 (hX : hg_XS T X) (hR : hg_SR T Rf) : ∀ (k i : Nat) (I1 : Nat → Nat → Nat → Int32), i + k = 5 → hk_r 24 I1 I → hk_P 6 24 i 0 0 (I1 22 24) I1 → hg_WP l E (d) Y_M_keep 0 0 135 [some (.ref (hg_ad E 21 0)), some (.ref (hg_ad E 22 24)), some (.int (nI i))] [] (I1, Lg, Rf, X) (hg_v (fun M' => ∃ I' : Nat → Nat → Nat → Int32, M' = (I', Lg, Rf, X) ∧ hk_r 24 I' I ∧ hk_P 6 24 5 10 8 (I' 22 24) I' ∧ hk_F (I' 22 24) I')) := by
  intro k
  induction k with
  | zero =>
    intro i I1 hik hq hP
    obtain rfl : i = 5 := by omega
    refine hg_iload2 d_M_keep_135 ?_
    refine hg_iconst (v := 5) d_M_keep_136 (by decide) ?_
    refine hg_icmp_ge (tgt := 170) d_M_keep_137 (by decide) (fun h_1 => ?_) (fun h_1 => absurd (by decide) h_1)
    refine hg_iconst (v := 0) d_M_keep_170 (by decide) ?_
    refine hg_istore2 d_M_keep_171 rfl ?_
    exact m_M_keep24_4 hX hR 10 0 I1 (by omega) hq hP
  | succ k ih =>
    intro i I1 hik hq hP
    obtain ⟨h1, h2, h3, h4, h5⟩ := hP
    refine hg_iload2 d_M_keep_135 ?_
    refine hg_iconst (v := 5) d_M_keep_136 (by decide) ?_
    refine hg_icmp_ge (tgt := 170) d_M_keep_137 (by decide) (fun h_2 => absurd h_2 (nI_ge (a := i) (b := 5) (by omega) (by decide))) (fun h_2 => ?_)
    refine hg_aload1 d_M_keep_140 ?_
    refine hg_bipush (v := 72) d_M_keep_141 (by decide) ?_
    refine hg_iload2 d_M_keep_143 ?_
    refine hg_iadd d_M_keep_144 ?_
    refine hg_eq1 (y := nI (72 + i)) (nI_add _ _) ?_
    refine hg_aload0 d_M_keep_145 ?_
    refine hg_getR d_M_keep_146 f_M_64 rfl rfl (hX.lt (n := 1) ⟨by decide, by decide⟩ rfl (by omega)) (hR.m (j := 31) (q := (22, 16)) rfl) ?_
    refine hg_iload2 d_M_keep_149 ?_
    refine hg_iald_n (j := i) d_M_keep_150 rfl rfl (hX.lt (n := 28) ⟨by decide, by decide⟩ rfl (by omega)) (hX.jn (n := 5) (by decide) rfl (by omega)) ?_
    refine hg_iast_n (j := (72 + i)) d_M_keep_151 rfl rfl (hX.lt (n := 28) ⟨by decide, by decide⟩ rfl (by omega)) (hX.jn (n := 128) (by decide) rfl (by omega)) ?_
    refine hg_aload1 d_M_keep_152 ?_
    refine hg_bipush (v := 77) d_M_keep_153 (by decide) ?_
    refine hg_iload2 d_M_keep_155 ?_
    refine hg_iadd d_M_keep_156 ?_
    refine hg_eq1 (y := nI (77 + i)) (nI_add _ _) ?_
    refine hg_aload0 d_M_keep_157 ?_
    refine hg_getR d_M_keep_158 f_M_67 rfl rfl (hX.lt (n := 1) ⟨by decide, by decide⟩ rfl (by omega)) (hR.m (j := 32) (q := (22, 17)) rfl) ?_
    refine hg_iload2 d_M_keep_161 ?_
    refine hg_iald_n (j := i) d_M_keep_162 rfl rfl (hX.lt (n := 28) ⟨by decide, by decide⟩ rfl (by omega)) (hX.jn (n := 5) (by decide) rfl (by omega)) ?_
    refine hg_eq1 (y := I1 22 17 i) (by simp [hg_u3]) ?_
    refine hg_iast_n (j := (77 + i)) d_M_keep_163 rfl rfl (hX.lt (n := 28) ⟨by decide, by decide⟩ rfl (by omega)) (hX.jn (n := 128) (by decide) rfl (by omega)) ?_
    refine hg_iinc2 (v := nI (i + 1)) d_M_keep_164 rfl (nI_add _ _) ?_
    refine hg_goto (tgt := 135) d_M_keep_167 (by decide) ?_
    refine ih (i + 1) _ (by omega) ((hq.u).u) ⟨?_, ?_, ?_, ?_, ?_⟩
    · intro q hq
      refine ⟨?_, ?_, ?_, ?_, ?_, ?_, ?_, ?_⟩
      · (repeat (first | rw [hg_u3k (by decide)] | (rw [hg_u3r]; first | rw [if_pos (by omega)] | rw [if_neg (by omega)]))); exact (h1 q hq).1
      · (repeat (first | rw [hg_u3k (by decide)] | (rw [hg_u3r]; first | rw [if_pos (by omega)] | rw [if_neg (by omega)]))); exact (h1 q hq).2.1
      · (repeat (first | rw [hg_u3k (by decide)] | (rw [hg_u3r]; first | rw [if_pos (by omega)] | rw [if_neg (by omega)]))); exact (h1 q hq).2.2.1
      · (repeat (first | rw [hg_u3k (by decide)] | (rw [hg_u3r]; first | rw [if_pos (by omega)] | rw [if_neg (by omega)]))); exact (h1 q hq).2.2.2.1
      · (repeat (first | rw [hg_u3k (by decide)] | (rw [hg_u3r]; first | rw [if_pos (by omega)] | rw [if_neg (by omega)]))); exact (h1 q hq).2.2.2.2.1
      · (repeat (first | rw [hg_u3k (by decide)] | (rw [hg_u3r]; first | rw [if_pos (by omega)] | rw [if_neg (by omega)]))); exact (h1 q hq).2.2.2.2.2.1
      · (repeat (first | rw [hg_u3k (by decide)] | (rw [hg_u3r]; first | rw [if_pos (by omega)] | rw [if_neg (by omega)]))); exact (h1 q hq).2.2.2.2.2.2.1
      · (repeat (first | rw [hg_u3k (by decide)] | (rw [hg_u3r]; first | rw [if_pos (by omega)] | rw [if_neg (by omega)]))); exact (h1 q hq).2.2.2.2.2.2.2
    · intro q hq
      (repeat (first | rw [hg_u3k (by decide)] | (rw [hg_u3r]; first | rw [if_pos (by omega)] | rw [if_neg (by omega)]))); exact (h2 q hq)
    · intro q hq
      by_cases e : q = i
      · subst e; clear h1 h2 h3 h4 h5
        refine ⟨?_, ?_⟩
        · ((repeat (first | rw [hg_u3k (by decide)] | (rw [hg_u3r]; first | rw [if_pos (by omega)] | rw [if_neg (by omega)]))))
        · ((repeat (first | rw [hg_u3k (by decide)] | (rw [hg_u3r]; first | rw [if_pos (by omega)] | rw [if_neg (by omega)]))))
      · have hq : q < i := by omega
        refine ⟨?_, ?_⟩
        · ((repeat (first | rw [hg_u3k (by decide)] | (rw [hg_u3r]; first | rw [if_pos (by omega)] | rw [if_neg (by omega)])))); exact (h3 q hq).1
        · ((repeat (first | rw [hg_u3k (by decide)] | (rw [hg_u3r]; first | rw [if_pos (by omega)] | rw [if_neg (by omega)])))); exact (h3 q hq).2
    · exact fun q hq => absurd hq (Nat.not_lt_zero _)
    · exact fun q hq => absurd hq (Nat.not_lt_zero _)
theorem m_M_keep24_2 (hX : hg_XS T X) (hR : hg_SR T Rf) : ∀ (k i : Nat) (I1 : Nat → Nat → Nat → Int32), i + k = 24 → hk_r 24 I1 I → hk_P 6 i 0 0 0 (I1 22 24) I1 → hg_WP l E (d) Y_M_keep 0 0 109 [some (.ref (hg_ad E 21 0)), some (.ref (hg_ad E 22 24)), some (.int (nI i))] [] (I1, Lg, Rf, X) (hg_v (fun M' => ∃ I' : Nat → Nat → Nat → Int32, M' = (I', Lg, Rf, X) ∧ hk_r 24 I' I ∧ hk_P 6 24 5 10 8 (I' 22 24) I' ∧ hk_F (I' 22 24) I')) := by
  intro k
  induction k with
  | zero =>
    intro i I1 hik hq hP
    obtain rfl : i = 24 := by omega
    refine hg_iload2 d_M_keep_109 ?_
    refine hg_bipush (v := 24) d_M_keep_110 (by decide) ?_
    refine hg_icmp_ge (tgt := 133) d_M_keep_112 (by decide) (fun h_1 => ?_) (fun h_1 => absurd (by decide) h_1)
    refine hg_iconst (v := 0) d_M_keep_133 (by decide) ?_
    refine hg_istore2 d_M_keep_134 rfl ?_
    exact m_M_keep24_3 hX hR 5 0 I1 (by omega) hq hP
  | succ k ih =>
    intro i I1 hik hq hP
    obtain ⟨h1, h2, h3, h4, h5⟩ := hP
    refine hg_iload2 d_M_keep_109 ?_
    refine hg_bipush (v := 24) d_M_keep_110 (by decide) ?_
    refine hg_icmp_ge (tgt := 133) d_M_keep_112 (by decide) (fun h_2 => absurd h_2 (nI_ge (a := i) (b := 24) (by omega) (by decide))) (fun h_2 => ?_)
    refine hg_aload1 d_M_keep_115 ?_
    refine hg_bipush (v := 48) d_M_keep_116 (by decide) ?_
    refine hg_iload2 d_M_keep_118 ?_
    refine hg_iadd d_M_keep_119 ?_
    refine hg_eq1 (y := nI (48 + i)) (nI_add _ _) ?_
    refine hg_aload0 d_M_keep_120 ?_
    refine hg_getR d_M_keep_121 f_M_33 rfl rfl (hX.lt (n := 1) ⟨by decide, by decide⟩ rfl (by omega)) (hR.m (j := 8) (q := (22, 7)) rfl) ?_
    refine hg_iload2 d_M_keep_124 ?_
    refine hg_iald_n (j := i) d_M_keep_125 rfl rfl (hX.lt (n := 28) ⟨by decide, by decide⟩ rfl (by omega)) (hX.jn (n := 24) (by decide) rfl (by omega)) ?_
    refine hg_iast_n (j := (48 + i)) d_M_keep_126 rfl rfl (hX.lt (n := 28) ⟨by decide, by decide⟩ rfl (by omega)) (hX.jn (n := 128) (by decide) rfl (by omega)) ?_
    refine hg_iinc2 (v := nI (i + 1)) d_M_keep_127 rfl (nI_add _ _) ?_
    refine hg_goto (tgt := 109) d_M_keep_130 (by decide) ?_
    refine ih (i + 1) _ (by omega) (hq.u) ⟨?_, ?_, ?_, ?_, ?_⟩
    · intro q hq
      refine ⟨?_, ?_, ?_, ?_, ?_, ?_, ?_, ?_⟩
      · (repeat (first | rw [hg_u3k (by decide)] | (rw [hg_u3r]; first | rw [if_pos (by omega)] | rw [if_neg (by omega)]))); exact (h1 q hq).1
      · (repeat (first | rw [hg_u3k (by decide)] | (rw [hg_u3r]; first | rw [if_pos (by omega)] | rw [if_neg (by omega)]))); exact (h1 q hq).2.1
      · (repeat (first | rw [hg_u3k (by decide)] | (rw [hg_u3r]; first | rw [if_pos (by omega)] | rw [if_neg (by omega)]))); exact (h1 q hq).2.2.1
      · (repeat (first | rw [hg_u3k (by decide)] | (rw [hg_u3r]; first | rw [if_pos (by omega)] | rw [if_neg (by omega)]))); exact (h1 q hq).2.2.2.1
      · (repeat (first | rw [hg_u3k (by decide)] | (rw [hg_u3r]; first | rw [if_pos (by omega)] | rw [if_neg (by omega)]))); exact (h1 q hq).2.2.2.2.1
      · (repeat (first | rw [hg_u3k (by decide)] | (rw [hg_u3r]; first | rw [if_pos (by omega)] | rw [if_neg (by omega)]))); exact (h1 q hq).2.2.2.2.2.1
      · (repeat (first | rw [hg_u3k (by decide)] | (rw [hg_u3r]; first | rw [if_pos (by omega)] | rw [if_neg (by omega)]))); exact (h1 q hq).2.2.2.2.2.2.1
      · (repeat (first | rw [hg_u3k (by decide)] | (rw [hg_u3r]; first | rw [if_pos (by omega)] | rw [if_neg (by omega)]))); exact (h1 q hq).2.2.2.2.2.2.2
    · intro q hq
      by_cases e : q = i
      · subst e; clear h1 h2 h3 h4 h5
        · ((repeat (first | rw [hg_u3k (by decide)] | (rw [hg_u3r]; first | rw [if_pos (by omega)] | rw [if_neg (by omega)]))))
      · have hq : q < i := by omega
        · ((repeat (first | rw [hg_u3k (by decide)] | (rw [hg_u3r]; first | rw [if_pos (by omega)] | rw [if_neg (by omega)])))); exact (h2 q hq)
    · exact fun q hq => absurd hq (Nat.not_lt_zero _)
    · exact fun q hq => absurd hq (Nat.not_lt_zero _)
    · exact fun q hq => absurd hq (Nat.not_lt_zero _)
theorem m_M_keep24_1 (hX : hg_XS T X) (hR : hg_SR T Rf) : ∀ (k i : Nat) (I1 : Nat → Nat → Nat → Int32), i + k = 6 → hk_r 24 I1 I → hk_P i 0 0 0 0 (I1 22 24) I1 → hg_WP l E (d) Y_M_keep 0 0 2 [some (.ref (hg_ad E 21 0)), some (.ref (hg_ad E 22 24)), some (.int (nI i))] [] (I1, Lg, Rf, X) (hg_v (fun M' => ∃ I' : Nat → Nat → Nat → Int32, M' = (I', Lg, Rf, X) ∧ hk_r 24 I' I ∧ hk_P 6 24 5 10 8 (I' 22 24) I' ∧ hk_F (I' 22 24) I')) := by
  intro k
  induction k with
  | zero =>
    intro i I1 hik hq hP
    obtain rfl : i = 6 := by omega
    refine hg_iload2 d_M_keep_2 ?_
    refine hg_bipush (v := 6) d_M_keep_3 (by decide) ?_
    refine hg_icmp_ge (tgt := 107) d_M_keep_5 (by decide) (fun h_1 => ?_) (fun h_1 => absurd (by decide) h_1)
    refine hg_iconst (v := 0) d_M_keep_107 (by decide) ?_
    refine hg_istore2 d_M_keep_108 rfl ?_
    exact m_M_keep24_2 hX hR 24 0 I1 (by omega) hq hP
  | succ k ih =>
    intro i I1 hik hq hP
    obtain ⟨h1, h2, h3, h4, h5⟩ := hP
    refine hg_iload2 d_M_keep_2 ?_
    refine hg_bipush (v := 6) d_M_keep_3 (by decide) ?_
    refine hg_icmp_ge (tgt := 107) d_M_keep_5 (by decide) (fun h_2 => absurd h_2 (nI_ge (a := i) (b := 6) (by omega) (by decide))) (fun h_2 => ?_)
    refine hg_aload1 d_M_keep_8 ?_
    refine hg_iload2 d_M_keep_9 ?_
    refine hg_aload0 d_M_keep_10 ?_
    refine hg_getR d_M_keep_11 f_M_9 rfl rfl (hX.lt (n := 1) ⟨by decide, by decide⟩ rfl (by omega)) (hR.m (j := 1) (q := (22, 0)) rfl) ?_
    refine hg_iload2 d_M_keep_14 ?_
    refine hg_iald_n (j := i) d_M_keep_15 rfl rfl (hX.lt (n := 28) ⟨by decide, by decide⟩ rfl (by omega)) (hX.jn (n := 6) (by decide) rfl (by omega)) ?_
    refine hg_iast_n (j := i) d_M_keep_16 rfl rfl (hX.lt (n := 28) ⟨by decide, by decide⟩ rfl (by omega)) (hX.jn (n := 128) (by decide) rfl (by omega)) ?_
    refine hg_aload1 d_M_keep_17 ?_
    refine hg_bipush (v := 6) d_M_keep_18 (by decide) ?_
    refine hg_iload2 d_M_keep_20 ?_
    refine hg_iadd d_M_keep_21 ?_
    refine hg_eq1 (y := nI (6 + i)) (nI_add _ _) ?_
    refine hg_aload0 d_M_keep_22 ?_
    refine hg_getR d_M_keep_23 f_M_15 rfl rfl (hX.lt (n := 1) ⟨by decide, by decide⟩ rfl (by omega)) (hR.m (j := 2) (q := (22, 1)) rfl) ?_
    refine hg_iload2 d_M_keep_26 ?_
    refine hg_iald_n (j := i) d_M_keep_27 rfl rfl (hX.lt (n := 28) ⟨by decide, by decide⟩ rfl (by omega)) (hX.jn (n := 6) (by decide) rfl (by omega)) ?_
    refine hg_eq1 (y := I1 22 1 i) (by simp [hg_u3]) ?_
    refine hg_iast_n (j := (6 + i)) d_M_keep_28 rfl rfl (hX.lt (n := 28) ⟨by decide, by decide⟩ rfl (by omega)) (hX.jn (n := 128) (by decide) rfl (by omega)) ?_
    refine hg_aload1 d_M_keep_29 ?_
    refine hg_bipush (v := 12) d_M_keep_30 (by decide) ?_
    refine hg_iload2 d_M_keep_32 ?_
    refine hg_iadd d_M_keep_33 ?_
    refine hg_eq1 (y := nI (12 + i)) (nI_add _ _) ?_
    refine hg_aload0 d_M_keep_34 ?_
    refine hg_getR d_M_keep_35 f_M_18 rfl rfl (hX.lt (n := 1) ⟨by decide, by decide⟩ rfl (by omega)) (hR.m (j := 3) (q := (22, 2)) rfl) ?_
    refine hg_iload2 d_M_keep_38 ?_
    refine hg_iald_n (j := i) d_M_keep_39 rfl rfl (hX.lt (n := 28) ⟨by decide, by decide⟩ rfl (by omega)) (hX.jn (n := 6) (by decide) rfl (by omega)) ?_
    refine hg_eq1 (y := I1 22 2 i) (by simp [hg_u3]) ?_
    refine hg_iast_n (j := (12 + i)) d_M_keep_40 rfl rfl (hX.lt (n := 28) ⟨by decide, by decide⟩ rfl (by omega)) (hX.jn (n := 128) (by decide) rfl (by omega)) ?_
    refine hg_aload1 d_M_keep_41 ?_
    refine hg_bipush (v := 18) d_M_keep_42 (by decide) ?_
    refine hg_iload2 d_M_keep_44 ?_
    refine hg_iadd d_M_keep_45 ?_
    refine hg_eq1 (y := nI (18 + i)) (nI_add _ _) ?_
    refine hg_aload0 d_M_keep_46 ?_
    refine hg_getR d_M_keep_47 f_M_21 rfl rfl (hX.lt (n := 1) ⟨by decide, by decide⟩ rfl (by omega)) (hR.m (j := 4) (q := (22, 3)) rfl) ?_
    refine hg_iload2 d_M_keep_50 ?_
    refine hg_iald_n (j := i) d_M_keep_51 rfl rfl (hX.lt (n := 28) ⟨by decide, by decide⟩ rfl (by omega)) (hX.jn (n := 6) (by decide) rfl (by omega)) ?_
    refine hg_eq1 (y := I1 22 3 i) (by simp [hg_u3]) ?_
    refine hg_iast_n (j := (18 + i)) d_M_keep_52 rfl rfl (hX.lt (n := 28) ⟨by decide, by decide⟩ rfl (by omega)) (hX.jn (n := 128) (by decide) rfl (by omega)) ?_
    refine hg_aload1 d_M_keep_53 ?_
    refine hg_bipush (v := 24) d_M_keep_54 (by decide) ?_
    refine hg_iload2 d_M_keep_56 ?_
    refine hg_iadd d_M_keep_57 ?_
    refine hg_eq1 (y := nI (24 + i)) (nI_add _ _) ?_
    refine hg_aload0 d_M_keep_58 ?_
    refine hg_getR d_M_keep_59 f_M_24 rfl rfl (hX.lt (n := 1) ⟨by decide, by decide⟩ rfl (by omega)) (hR.m (j := 5) (q := (22, 4)) rfl) ?_
    refine hg_iload2 d_M_keep_62 ?_
    refine hg_iald_n (j := i) d_M_keep_63 rfl rfl (hX.lt (n := 28) ⟨by decide, by decide⟩ rfl (by omega)) (hX.jn (n := 6) (by decide) rfl (by omega)) ?_
    refine hg_eq1 (y := I1 22 4 i) (by simp [hg_u3]) ?_
    refine hg_iast_n (j := (24 + i)) d_M_keep_64 rfl rfl (hX.lt (n := 28) ⟨by decide, by decide⟩ rfl (by omega)) (hX.jn (n := 128) (by decide) rfl (by omega)) ?_
    refine hg_aload1 d_M_keep_65 ?_
    refine hg_bipush (v := 30) d_M_keep_66 (by decide) ?_
    refine hg_iload2 d_M_keep_68 ?_
    refine hg_iadd d_M_keep_69 ?_
    refine hg_eq1 (y := nI (30 + i)) (nI_add _ _) ?_
    refine hg_aload0 d_M_keep_70 ?_
    refine hg_getR d_M_keep_71 f_M_27 rfl rfl (hX.lt (n := 1) ⟨by decide, by decide⟩ rfl (by omega)) (hR.m (j := 6) (q := (22, 5)) rfl) ?_
    refine hg_iload2 d_M_keep_74 ?_
    refine hg_iald_n (j := i) d_M_keep_75 rfl rfl (hX.lt (n := 28) ⟨by decide, by decide⟩ rfl (by omega)) (hX.jn (n := 6) (by decide) rfl (by omega)) ?_
    refine hg_eq1 (y := I1 22 5 i) (by simp [hg_u3]) ?_
    refine hg_iast_n (j := (30 + i)) d_M_keep_76 rfl rfl (hX.lt (n := 28) ⟨by decide, by decide⟩ rfl (by omega)) (hX.jn (n := 128) (by decide) rfl (by omega)) ?_
    refine hg_aload1 d_M_keep_77 ?_
    refine hg_bipush (v := 36) d_M_keep_78 (by decide) ?_
    refine hg_iload2 d_M_keep_80 ?_
    refine hg_iadd d_M_keep_81 ?_
    refine hg_eq1 (y := nI (36 + i)) (nI_add _ _) ?_
    refine hg_aload0 d_M_keep_82 ?_
    refine hg_getR d_M_keep_83 f_M_30 rfl rfl (hX.lt (n := 1) ⟨by decide, by decide⟩ rfl (by omega)) (hR.m (j := 7) (q := (22, 6)) rfl) ?_
    refine hg_iload2 d_M_keep_86 ?_
    refine hg_iald_n (j := i) d_M_keep_87 rfl rfl (hX.lt (n := 28) ⟨by decide, by decide⟩ rfl (by omega)) (hX.jn (n := 6) (by decide) rfl (by omega)) ?_
    refine hg_eq1 (y := I1 22 6 i) (by simp [hg_u3]) ?_
    refine hg_iast_n (j := (36 + i)) d_M_keep_88 rfl rfl (hX.lt (n := 28) ⟨by decide, by decide⟩ rfl (by omega)) (hX.jn (n := 128) (by decide) rfl (by omega)) ?_
    refine hg_aload1 d_M_keep_89 ?_
    refine hg_bipush (v := 42) d_M_keep_90 (by decide) ?_
    refine hg_iload2 d_M_keep_92 ?_
    refine hg_iadd d_M_keep_93 ?_
    refine hg_eq1 (y := nI (42 + i)) (nI_add _ _) ?_
    refine hg_aload0 d_M_keep_94 ?_
    refine hg_getR d_M_keep_95 f_M_36 rfl rfl (hX.lt (n := 1) ⟨by decide, by decide⟩ rfl (by omega)) (hR.m (j := 9) (q := (22, 8)) rfl) ?_
    refine hg_iload2 d_M_keep_98 ?_
    refine hg_iald_n (j := i) d_M_keep_99 rfl rfl (hX.lt (n := 28) ⟨by decide, by decide⟩ rfl (by omega)) (hX.jn (n := 6) (by decide) rfl (by omega)) ?_
    refine hg_eq1 (y := I1 22 8 i) (by simp [hg_u3]) ?_
    refine hg_iast_n (j := (42 + i)) d_M_keep_100 rfl rfl (hX.lt (n := 28) ⟨by decide, by decide⟩ rfl (by omega)) (hX.jn (n := 128) (by decide) rfl (by omega)) ?_
    refine hg_iinc2 (v := nI (i + 1)) d_M_keep_101 rfl (nI_add _ _) ?_
    refine hg_goto (tgt := 2) d_M_keep_104 (by decide) ?_
    refine ih (i + 1) _ (by omega) ((((((((hq.u).u).u).u).u).u).u).u) ⟨?_, ?_, ?_, ?_, ?_⟩
    · intro q hq
      by_cases e : q = i
      · subst e; clear h1 h2 h3 h4 h5
        refine ⟨?_, ?_, ?_, ?_, ?_, ?_, ?_, ?_⟩
        · ((repeat (first | rw [hg_u3k (by decide)] | (rw [hg_u3r]; first | rw [if_pos (by omega)] | rw [if_neg (by omega)]))))
        · ((repeat (first | rw [hg_u3k (by decide)] | (rw [hg_u3r]; first | rw [if_pos (by omega)] | rw [if_neg (by omega)]))))
        · ((repeat (first | rw [hg_u3k (by decide)] | (rw [hg_u3r]; first | rw [if_pos (by omega)] | rw [if_neg (by omega)]))))
        · ((repeat (first | rw [hg_u3k (by decide)] | (rw [hg_u3r]; first | rw [if_pos (by omega)] | rw [if_neg (by omega)]))))
        · ((repeat (first | rw [hg_u3k (by decide)] | (rw [hg_u3r]; first | rw [if_pos (by omega)] | rw [if_neg (by omega)]))))
        · ((repeat (first | rw [hg_u3k (by decide)] | (rw [hg_u3r]; first | rw [if_pos (by omega)] | rw [if_neg (by omega)]))))
        · ((repeat (first | rw [hg_u3k (by decide)] | (rw [hg_u3r]; first | rw [if_pos (by omega)] | rw [if_neg (by omega)]))))
        · ((repeat (first | rw [hg_u3k (by decide)] | (rw [hg_u3r]; first | rw [if_pos (by omega)] | rw [if_neg (by omega)]))))
      · have hq : q < i := by omega
        refine ⟨?_, ?_, ?_, ?_, ?_, ?_, ?_, ?_⟩
        · ((repeat (first | rw [hg_u3k (by decide)] | (rw [hg_u3r]; first | rw [if_pos (by omega)] | rw [if_neg (by omega)])))); exact (h1 q hq).1
        · ((repeat (first | rw [hg_u3k (by decide)] | (rw [hg_u3r]; first | rw [if_pos (by omega)] | rw [if_neg (by omega)])))); exact (h1 q hq).2.1
        · ((repeat (first | rw [hg_u3k (by decide)] | (rw [hg_u3r]; first | rw [if_pos (by omega)] | rw [if_neg (by omega)])))); exact (h1 q hq).2.2.1
        · ((repeat (first | rw [hg_u3k (by decide)] | (rw [hg_u3r]; first | rw [if_pos (by omega)] | rw [if_neg (by omega)])))); exact (h1 q hq).2.2.2.1
        · ((repeat (first | rw [hg_u3k (by decide)] | (rw [hg_u3r]; first | rw [if_pos (by omega)] | rw [if_neg (by omega)])))); exact (h1 q hq).2.2.2.2.1
        · ((repeat (first | rw [hg_u3k (by decide)] | (rw [hg_u3r]; first | rw [if_pos (by omega)] | rw [if_neg (by omega)])))); exact (h1 q hq).2.2.2.2.2.1
        · ((repeat (first | rw [hg_u3k (by decide)] | (rw [hg_u3r]; first | rw [if_pos (by omega)] | rw [if_neg (by omega)])))); exact (h1 q hq).2.2.2.2.2.2.1
        · ((repeat (first | rw [hg_u3k (by decide)] | (rw [hg_u3r]; first | rw [if_pos (by omega)] | rw [if_neg (by omega)])))); exact (h1 q hq).2.2.2.2.2.2.2
    · exact fun q hq => absurd hq (Nat.not_lt_zero _)
    · exact fun q hq => absurd hq (Nat.not_lt_zero _)
    · exact fun q hq => absurd hq (Nat.not_lt_zero _)
    · exact fun q hq => absurd hq (Nat.not_lt_zero _)
theorem m_M_keep24 (hX : hg_XS T X) (hR : hg_SR T Rf) : hg_MC l E (d + 1) Y_M_keep 0 0 [.ref (hg_ad E 21 0), .ref (hg_ad E 22 24)] (I, Lg, Rf, X) (hg_v (fun M' => ∃ I' : Nat → Nat → Nat → Int32, M' = (I', Lg, Rf, X) ∧ hk_r 24 I' I ∧ hk_P 6 24 5 10 8 (I' 22 24) I' ∧ hk_F (I' 22 24) I')) := by
  refine hg_mc k_M_keep (Nat.le_of_ble_eq_true rfl) ?_
  show hg_WP l E _ Y_M_keep 0 0 0 [some (.ref (hg_ad E 21 0)), some (.ref (hg_ad E 22 24)), none] [] (I, Lg, Rf, X) _
  refine hg_iconst (v := 0) d_M_keep_0 (by decide) ?_
  refine hg_istore2 d_M_keep_1 rfl ?_
  exact m_M_keep24_1 hX hR 6 0 I (by omega) hk_r.rf ⟨fun q hq => absurd hq (Nat.not_lt_zero _), fun q hq => absurd hq (Nat.not_lt_zero _), fun q hq => absurd hq (Nat.not_lt_zero _), fun q hq => absurd hq (Nat.not_lt_zero _), fun q hq => absurd hq (Nat.not_lt_zero _)⟩

theorem m_M_again24_6 (hX : hg_XS T X) (hR : hg_SR T Rf) {a2 : Option Value} (hq : hm_k I1 I) (hP : hk_P 6 24 5 10 8 (I1 22 24) I1) : hg_WP l E (d) Y_M_again 0 0 246 [some (.ref (hg_ad E 21 0)), some (.ref (hg_ad E 22 24)), a2] [] (I1, Lg, Rf, X) (hg_v (fun M' => ∃ I' : Nat → Nat → Nat → Int32, M' = (I', Lg, Rf, X) ∧ hm_k I' I ∧ hk_P 6 24 5 10 8 (I' 22 24) I' ∧ hk_F (I' 22 24) I')) := by
  refine hg_aload0 d_M_again_246 ?_
  refine hg_aload1 d_M_again_247 ?_
  refine hg_bipush (v := 118) d_M_again_248 (by decide) ?_
  refine hg_iald_n (j := 118) d_M_again_250 rfl rfl (hX.lt (n := 28) ⟨by decide, by decide⟩ rfl (by omega)) (hX.jn (n := 128) (by decide) rfl (by omega)) ?_
  refine hg_putI d_M_again_251 f_M_108 rfl rfl (Or.inl rfl) rfl rfl (hX.lt (n := 1) ⟨by decide, by decide⟩ rfl (by omega)) ?_
  refine hg_aload0 d_M_again_254 ?_
  refine hg_aload1 d_M_again_255 ?_
  refine hg_bipush (v := 119) d_M_again_256 (by decide) ?_
  refine hg_iald_n (j := 119) d_M_again_258 rfl rfl (hX.lt (n := 28) ⟨by decide, by decide⟩ rfl (by omega)) (hX.jn (n := 128) (by decide) rfl (by omega)) ?_
  refine hg_eq1 (y := I1 22 24 119) (by simp [hg_u3]) ?_
  refine hg_putI d_M_again_259 f_M_236 rfl rfl (Or.inl rfl) rfl rfl (hX.lt (n := 1) ⟨by decide, by decide⟩ rfl (by omega)) ?_
  refine hg_aload0 d_M_again_262 ?_
  refine hg_aload1 d_M_again_263 ?_
  refine hg_bipush (v := 120) d_M_again_264 (by decide) ?_
  refine hg_iald_n (j := 120) d_M_again_266 rfl rfl (hX.lt (n := 28) ⟨by decide, by decide⟩ rfl (by omega)) (hX.jn (n := 128) (by decide) rfl (by omega)) ?_
  refine hg_eq1 (y := I1 22 24 120) (by simp [hg_u3]) ?_
  refine hg_putI d_M_again_267 f_M_248 rfl rfl (Or.inl rfl) rfl rfl (hX.lt (n := 1) ⟨by decide, by decide⟩ rfl (by omega)) ?_
  refine hg_aload0 d_M_again_270 ?_
  refine hg_aload1 d_M_again_271 ?_
  refine hg_bipush (v := 121) d_M_again_272 (by decide) ?_
  refine hg_iald_n (j := 121) d_M_again_274 rfl rfl (hX.lt (n := 28) ⟨by decide, by decide⟩ rfl (by omega)) (hX.jn (n := 128) (by decide) rfl (by omega)) ?_
  refine hg_eq1 (y := I1 22 24 121) (by simp [hg_u3]) ?_
  refine hg_putI d_M_again_275 f_M_251 rfl rfl (Or.inl rfl) rfl rfl (hX.lt (n := 1) ⟨by decide, by decide⟩ rfl (by omega)) ?_
  refine hg_aload0 d_M_again_278 ?_
  refine hg_aload1 d_M_again_279 ?_
  refine hg_bipush (v := 122) d_M_again_280 (by decide) ?_
  refine hg_iald_n (j := 122) d_M_again_282 rfl rfl (hX.lt (n := 28) ⟨by decide, by decide⟩ rfl (by omega)) (hX.jn (n := 128) (by decide) rfl (by omega)) ?_
  refine hg_eq1 (y := I1 22 24 122) (by simp [hg_u3]) ?_
  refine hg_putI d_M_again_283 f_M_214 rfl rfl (Or.inl rfl) rfl rfl (hX.lt (n := 1) ⟨by decide, by decide⟩ rfl (by omega)) ?_
  refine hg_aload0 d_M_again_286 ?_
  refine hg_aload1 d_M_again_287 ?_
  refine hg_bipush (v := 123) d_M_again_288 (by decide) ?_
  refine hg_iald_n (j := 123) d_M_again_290 rfl rfl (hX.lt (n := 28) ⟨by decide, by decide⟩ rfl (by omega)) (hX.jn (n := 128) (by decide) rfl (by omega)) ?_
  refine hg_eq1 (y := I1 22 24 123) (by simp [hg_u3]) ?_
  refine hg_putI d_M_again_291 f_M_282 rfl rfl (Or.inl rfl) rfl rfl (hX.lt (n := 1) ⟨by decide, by decide⟩ rfl (by omega)) ?_
  refine hg_aload0 d_M_again_294 ?_
  refine hg_aload1 d_M_again_295 ?_
  refine hg_bipush (v := 124) d_M_again_296 (by decide) ?_
  refine hg_iald_n (j := 124) d_M_again_298 rfl rfl (hX.lt (n := 28) ⟨by decide, by decide⟩ rfl (by omega)) (hX.jn (n := 128) (by decide) rfl (by omega)) ?_
  refine hg_eq1 (y := I1 22 24 124) (by simp [hg_u3]) ?_
  refine hg_putI d_M_again_299 f_M_294 rfl rfl (Or.inl rfl) rfl rfl (hX.lt (n := 1) ⟨by decide, by decide⟩ rfl (by omega)) ?_
  refine hg_aload0 d_M_again_302 ?_
  refine hg_aload1 d_M_again_303 ?_
  refine hg_bipush (v := 125) d_M_again_304 (by decide) ?_
  refine hg_iald_n (j := 125) d_M_again_306 rfl rfl (hX.lt (n := 28) ⟨by decide, by decide⟩ rfl (by omega)) (hX.jn (n := 128) (by decide) rfl (by omega)) ?_
  refine hg_eq1 (y := I1 22 24 125) (by simp [hg_u3]) ?_
  refine hg_putI d_M_again_307 f_M_297 rfl rfl (Or.inl rfl) rfl rfl (hX.lt (n := 1) ⟨by decide, by decide⟩ rfl (by omega)) ?_
  refine hg_aload0 d_M_again_310 ?_
  refine hg_aload1 d_M_again_311 ?_
  refine hg_bipush (v := 126) d_M_again_312 (by decide) ?_
  refine hg_iald_n (j := 126) d_M_again_314 rfl rfl (hX.lt (n := 28) ⟨by decide, by decide⟩ rfl (by omega)) (hX.jn (n := 128) (by decide) rfl (by omega)) ?_
  refine hg_eq1 (y := I1 22 24 126) (by simp [hg_u3]) ?_
  refine hg_putI d_M_again_315 f_M_104 rfl rfl (Or.inl rfl) rfl rfl (hX.lt (n := 1) ⟨by decide, by decide⟩ rfl (by omega)) ?_
  obtain ⟨h1, h2, h3, h4, h5⟩ := hP
  refine hg_return d_M_again_318 rfl ?_
  refine ⟨_, rfl, (hm_k.u21 (hm_k.u21 (hm_k.u21 (hm_k.u21 (hm_k.u21 (hm_k.u21 (hm_k.u21 (hm_k.u21 (hm_k.u21 hq (by omega)) (by omega)) (by omega)) (by omega)) (by omega)) (by omega)) (by omega)) (by omega)) (by omega)), ⟨?_, ?_, ?_, ?_, ?_⟩, ⟨?_, ?_, ?_, ?_, ?_, ?_, ?_, ?_, ?_⟩⟩
  · intro q hq
    refine ⟨?_, ?_, ?_, ?_, ?_, ?_, ?_, ?_⟩
    · (repeat (first | rw [hg_u3k (by decide)] | (rw [hg_u3r]; first | rw [if_pos (by omega)] | rw [if_neg (by omega)]))); exact (h1 q hq).1
    · (repeat (first | rw [hg_u3k (by decide)] | (rw [hg_u3r]; first | rw [if_pos (by omega)] | rw [if_neg (by omega)]))); exact (h1 q hq).2.1
    · (repeat (first | rw [hg_u3k (by decide)] | (rw [hg_u3r]; first | rw [if_pos (by omega)] | rw [if_neg (by omega)]))); exact (h1 q hq).2.2.1
    · (repeat (first | rw [hg_u3k (by decide)] | (rw [hg_u3r]; first | rw [if_pos (by omega)] | rw [if_neg (by omega)]))); exact (h1 q hq).2.2.2.1
    · (repeat (first | rw [hg_u3k (by decide)] | (rw [hg_u3r]; first | rw [if_pos (by omega)] | rw [if_neg (by omega)]))); exact (h1 q hq).2.2.2.2.1
    · (repeat (first | rw [hg_u3k (by decide)] | (rw [hg_u3r]; first | rw [if_pos (by omega)] | rw [if_neg (by omega)]))); exact (h1 q hq).2.2.2.2.2.1
    · (repeat (first | rw [hg_u3k (by decide)] | (rw [hg_u3r]; first | rw [if_pos (by omega)] | rw [if_neg (by omega)]))); exact (h1 q hq).2.2.2.2.2.2.1
    · (repeat (first | rw [hg_u3k (by decide)] | (rw [hg_u3r]; first | rw [if_pos (by omega)] | rw [if_neg (by omega)]))); exact (h1 q hq).2.2.2.2.2.2.2
  · intro q hq
    (repeat (first | rw [hg_u3k (by decide)] | (rw [hg_u3r]; first | rw [if_pos (by omega)] | rw [if_neg (by omega)]))); exact (h2 q hq)
  · intro q hq
    refine ⟨?_, ?_⟩
    · (repeat (first | rw [hg_u3k (by decide)] | (rw [hg_u3r]; first | rw [if_pos (by omega)] | rw [if_neg (by omega)]))); exact (h3 q hq).1
    · (repeat (first | rw [hg_u3k (by decide)] | (rw [hg_u3r]; first | rw [if_pos (by omega)] | rw [if_neg (by omega)]))); exact (h3 q hq).2
  · intro q hq
    refine ⟨?_, ?_⟩
    · (repeat (first | rw [hg_u3k (by decide)] | (rw [hg_u3r]; first | rw [if_pos (by omega)] | rw [if_neg (by omega)]))); exact (h4 q hq).1
    · (repeat (first | rw [hg_u3k (by decide)] | (rw [hg_u3r]; first | rw [if_pos (by omega)] | rw [if_neg (by omega)]))); exact (h4 q hq).2
  · intro q hq
    refine ⟨?_, ?_⟩
    · (repeat (first | rw [hg_u3k (by decide)] | (rw [hg_u3r]; first | rw [if_pos (by omega)] | rw [if_neg (by omega)]))); exact (h5 q hq).1
    · (repeat (first | rw [hg_u3k (by decide)] | (rw [hg_u3r]; first | rw [if_pos (by omega)] | rw [if_neg (by omega)]))); exact (h5 q hq).2
  · ((repeat (first | rw [hg_u3k (by decide)] | (rw [hg_u3r]; first | rw [if_pos (by omega)] | rw [if_neg (by omega)]))))
  · ((repeat (first | rw [hg_u3k (by decide)] | (rw [hg_u3r]; first | rw [if_pos (by omega)] | rw [if_neg (by omega)]))))
  · ((repeat (first | rw [hg_u3k (by decide)] | (rw [hg_u3r]; first | rw [if_pos (by omega)] | rw [if_neg (by omega)]))))
  · ((repeat (first | rw [hg_u3k (by decide)] | (rw [hg_u3r]; first | rw [if_pos (by omega)] | rw [if_neg (by omega)]))))
  · ((repeat (first | rw [hg_u3k (by decide)] | (rw [hg_u3r]; first | rw [if_pos (by omega)] | rw [if_neg (by omega)]))))
  · ((repeat (first | rw [hg_u3k (by decide)] | (rw [hg_u3r]; first | rw [if_pos (by omega)] | rw [if_neg (by omega)]))))
  · ((repeat (first | rw [hg_u3k (by decide)] | (rw [hg_u3r]; first | rw [if_pos (by omega)] | rw [if_neg (by omega)]))))
  · ((repeat (first | rw [hg_u3k (by decide)] | (rw [hg_u3r]; first | rw [if_pos (by omega)] | rw [if_neg (by omega)]))))
  · ((repeat (first | rw [hg_u3k (by decide)] | (rw [hg_u3r]; first | rw [if_pos (by omega)] | rw [if_neg (by omega)]))))
theorem m_M_again24_5 (hX : hg_XS T X) (hR : hg_SR T Rf) : ∀ (k i : Nat) (I1 : Nat → Nat → Nat → Int32), i + k = 8 → hm_k I1 I → hk_P 6 24 5 10 i (I1 22 24) I1 → hg_WP l E (d) Y_M_again 0 0 210 [some (.ref (hg_ad E 21 0)), some (.ref (hg_ad E 22 24)), some (.int (nI i))] [] (I1, Lg, Rf, X) (hg_v (fun M' => ∃ I' : Nat → Nat → Nat → Int32, M' = (I', Lg, Rf, X) ∧ hm_k I' I ∧ hk_P 6 24 5 10 8 (I' 22 24) I' ∧ hk_F (I' 22 24) I')) := by
  intro k
  induction k with
  | zero =>
    intro i I1 hik hq hP
    obtain rfl : i = 8 := by omega
    refine hg_iload2 d_M_again_210 ?_
    refine hg_bipush (v := 8) d_M_again_211 (by decide) ?_
    refine hg_icmp_ge (tgt := 246) d_M_again_213 (by decide) (fun h_1 => ?_) (fun h_1 => absurd (by decide) h_1)
    exact m_M_again24_6 hX hR hq hP
  | succ k ih =>
    intro i I1 hik hq hP
    obtain ⟨h1, h2, h3, h4, h5⟩ := hP
    refine hg_iload2 d_M_again_210 ?_
    refine hg_bipush (v := 8) d_M_again_211 (by decide) ?_
    refine hg_icmp_ge (tgt := 246) d_M_again_213 (by decide) (fun h_2 => absurd h_2 (nI_ge (a := i) (b := 8) (by omega) (by decide))) (fun h_2 => ?_)
    refine hg_aload0 d_M_again_216 ?_
    refine hg_getR d_M_again_217 f_M_76 rfl rfl (hX.lt (n := 1) ⟨by decide, by decide⟩ rfl (by omega)) (hR.m (j := 37) (q := (22, 20)) rfl) ?_
    refine hg_iload2 d_M_again_220 ?_
    refine hg_aload1 d_M_again_221 ?_
    refine hg_bipush (v := 102) d_M_again_222 (by decide) ?_
    refine hg_iload2 d_M_again_224 ?_
    refine hg_iadd d_M_again_225 ?_
    refine hg_eq1 (y := nI (102 + i)) (nI_add _ _) ?_
    refine hg_iald_n (j := (102 + i)) d_M_again_226 rfl rfl (hX.lt (n := 28) ⟨by decide, by decide⟩ rfl (by omega)) (hX.jn (n := 128) (by decide) rfl (by omega)) ?_
    refine hg_iast_n (j := i) d_M_again_227 rfl rfl (hX.lt (n := 28) ⟨by decide, by decide⟩ rfl (by omega)) (hX.jn (n := 8) (by decide) rfl (by omega)) ?_
    refine hg_aload0 d_M_again_228 ?_
    refine hg_getR d_M_again_229 f_M_79 rfl rfl (hX.lt (n := 1) ⟨by decide, by decide⟩ rfl (by omega)) (hR.m (j := 38) (q := (22, 21)) rfl) ?_
    refine hg_iload2 d_M_again_232 ?_
    refine hg_aload1 d_M_again_233 ?_
    refine hg_bipush (v := 110) d_M_again_234 (by decide) ?_
    refine hg_iload2 d_M_again_236 ?_
    refine hg_iadd d_M_again_237 ?_
    refine hg_eq1 (y := nI (110 + i)) (nI_add _ _) ?_
    refine hg_iald_n (j := (110 + i)) d_M_again_238 rfl rfl (hX.lt (n := 28) ⟨by decide, by decide⟩ rfl (by omega)) (hX.jn (n := 128) (by decide) rfl (by omega)) ?_
    refine hg_eq1 (y := I1 22 24 (110 + i)) (by simp [hg_u3]) ?_
    refine hg_iast_n (j := i) d_M_again_239 rfl rfl (hX.lt (n := 28) ⟨by decide, by decide⟩ rfl (by omega)) (hX.jn (n := 8) (by decide) rfl (by omega)) ?_
    refine hg_iinc2 (v := nI (i + 1)) d_M_again_240 rfl (nI_add _ _) ?_
    refine hg_goto (tgt := 210) d_M_again_243 (by decide) ?_
    refine ih (i + 1) _ (by omega) (hm_k.u22 (hm_k.u22 hq (by omega)) (by omega)) ⟨?_, ?_, ?_, ?_, ?_⟩
    · intro q hq
      refine ⟨?_, ?_, ?_, ?_, ?_, ?_, ?_, ?_⟩
      · (repeat (first | rw [hg_u3k (by decide)] | (rw [hg_u3r]; first | rw [if_pos (by omega)] | rw [if_neg (by omega)]))); exact (h1 q hq).1
      · (repeat (first | rw [hg_u3k (by decide)] | (rw [hg_u3r]; first | rw [if_pos (by omega)] | rw [if_neg (by omega)]))); exact (h1 q hq).2.1
      · (repeat (first | rw [hg_u3k (by decide)] | (rw [hg_u3r]; first | rw [if_pos (by omega)] | rw [if_neg (by omega)]))); exact (h1 q hq).2.2.1
      · (repeat (first | rw [hg_u3k (by decide)] | (rw [hg_u3r]; first | rw [if_pos (by omega)] | rw [if_neg (by omega)]))); exact (h1 q hq).2.2.2.1
      · (repeat (first | rw [hg_u3k (by decide)] | (rw [hg_u3r]; first | rw [if_pos (by omega)] | rw [if_neg (by omega)]))); exact (h1 q hq).2.2.2.2.1
      · (repeat (first | rw [hg_u3k (by decide)] | (rw [hg_u3r]; first | rw [if_pos (by omega)] | rw [if_neg (by omega)]))); exact (h1 q hq).2.2.2.2.2.1
      · (repeat (first | rw [hg_u3k (by decide)] | (rw [hg_u3r]; first | rw [if_pos (by omega)] | rw [if_neg (by omega)]))); exact (h1 q hq).2.2.2.2.2.2.1
      · (repeat (first | rw [hg_u3k (by decide)] | (rw [hg_u3r]; first | rw [if_pos (by omega)] | rw [if_neg (by omega)]))); exact (h1 q hq).2.2.2.2.2.2.2
    · intro q hq
      (repeat (first | rw [hg_u3k (by decide)] | (rw [hg_u3r]; first | rw [if_pos (by omega)] | rw [if_neg (by omega)]))); exact (h2 q hq)
    · intro q hq
      refine ⟨?_, ?_⟩
      · (repeat (first | rw [hg_u3k (by decide)] | (rw [hg_u3r]; first | rw [if_pos (by omega)] | rw [if_neg (by omega)]))); exact (h3 q hq).1
      · (repeat (first | rw [hg_u3k (by decide)] | (rw [hg_u3r]; first | rw [if_pos (by omega)] | rw [if_neg (by omega)]))); exact (h3 q hq).2
    · intro q hq
      refine ⟨?_, ?_⟩
      · (repeat (first | rw [hg_u3k (by decide)] | (rw [hg_u3r]; first | rw [if_pos (by omega)] | rw [if_neg (by omega)]))); exact (h4 q hq).1
      · (repeat (first | rw [hg_u3k (by decide)] | (rw [hg_u3r]; first | rw [if_pos (by omega)] | rw [if_neg (by omega)]))); exact (h4 q hq).2
    · intro q hq
      by_cases e : q = i
      · subst e; clear h1 h2 h3 h4 h5
        refine ⟨?_, ?_⟩
        · ((repeat (first | rw [hg_u3k (by decide)] | (rw [hg_u3r]; first | rw [if_pos (by omega)] | rw [if_neg (by omega)]))))
        · ((repeat (first | rw [hg_u3k (by decide)] | (rw [hg_u3r]; first | rw [if_pos (by omega)] | rw [if_neg (by omega)]))))
      · have hq : q < i := by omega
        refine ⟨?_, ?_⟩
        · ((repeat (first | rw [hg_u3k (by decide)] | (rw [hg_u3r]; first | rw [if_pos (by omega)] | rw [if_neg (by omega)])))); exact (h5 q hq).1
        · ((repeat (first | rw [hg_u3k (by decide)] | (rw [hg_u3r]; first | rw [if_pos (by omega)] | rw [if_neg (by omega)])))); exact (h5 q hq).2
theorem m_M_again24_4 (hX : hg_XS T X) (hR : hg_SR T Rf) : ∀ (k i : Nat) (I1 : Nat → Nat → Nat → Int32), i + k = 10 → hm_k I1 I → hk_P 6 24 5 i 0 (I1 22 24) I1 → hg_WP l E (d) Y_M_again 0 0 172 [some (.ref (hg_ad E 21 0)), some (.ref (hg_ad E 22 24)), some (.int (nI i))] [] (I1, Lg, Rf, X) (hg_v (fun M' => ∃ I' : Nat → Nat → Nat → Int32, M' = (I', Lg, Rf, X) ∧ hm_k I' I ∧ hk_P 6 24 5 10 8 (I' 22 24) I' ∧ hk_F (I' 22 24) I')) := by
  intro k
  induction k with
  | zero =>
    intro i I1 hik hq hP
    obtain rfl : i = 10 := by omega
    refine hg_iload2 d_M_again_172 ?_
    refine hg_bipush (v := 10) d_M_again_173 (by decide) ?_
    refine hg_icmp_ge (tgt := 208) d_M_again_175 (by decide) (fun h_1 => ?_) (fun h_1 => absurd (by decide) h_1)
    refine hg_iconst (v := 0) d_M_again_208 (by decide) ?_
    refine hg_istore2 d_M_again_209 rfl ?_
    exact m_M_again24_5 hX hR 8 0 I1 (by omega) hq hP
  | succ k ih =>
    intro i I1 hik hq hP
    obtain ⟨h1, h2, h3, h4, h5⟩ := hP
    refine hg_iload2 d_M_again_172 ?_
    refine hg_bipush (v := 10) d_M_again_173 (by decide) ?_
    refine hg_icmp_ge (tgt := 208) d_M_again_175 (by decide) (fun h_2 => absurd h_2 (nI_ge (a := i) (b := 10) (by omega) (by decide))) (fun h_2 => ?_)
    refine hg_aload0 d_M_again_178 ?_
    refine hg_getR d_M_again_179 f_M_70 rfl rfl (hX.lt (n := 1) ⟨by decide, by decide⟩ rfl (by omega)) (hR.m (j := 34) (q := (22, 18)) rfl) ?_
    refine hg_iload2 d_M_again_182 ?_
    refine hg_aload1 d_M_again_183 ?_
    refine hg_bipush (v := 82) d_M_again_184 (by decide) ?_
    refine hg_iload2 d_M_again_186 ?_
    refine hg_iadd d_M_again_187 ?_
    refine hg_eq1 (y := nI (82 + i)) (nI_add _ _) ?_
    refine hg_iald_n (j := (82 + i)) d_M_again_188 rfl rfl (hX.lt (n := 28) ⟨by decide, by decide⟩ rfl (by omega)) (hX.jn (n := 128) (by decide) rfl (by omega)) ?_
    refine hg_iast_n (j := i) d_M_again_189 rfl rfl (hX.lt (n := 28) ⟨by decide, by decide⟩ rfl (by omega)) (hX.jn (n := 10) (by decide) rfl (by omega)) ?_
    refine hg_aload0 d_M_again_190 ?_
    refine hg_getR d_M_again_191 f_M_73 rfl rfl (hX.lt (n := 1) ⟨by decide, by decide⟩ rfl (by omega)) (hR.m (j := 35) (q := (22, 19)) rfl) ?_
    refine hg_iload2 d_M_again_194 ?_
    refine hg_aload1 d_M_again_195 ?_
    refine hg_bipush (v := 92) d_M_again_196 (by decide) ?_
    refine hg_iload2 d_M_again_198 ?_
    refine hg_iadd d_M_again_199 ?_
    refine hg_eq1 (y := nI (92 + i)) (nI_add _ _) ?_
    refine hg_iald_n (j := (92 + i)) d_M_again_200 rfl rfl (hX.lt (n := 28) ⟨by decide, by decide⟩ rfl (by omega)) (hX.jn (n := 128) (by decide) rfl (by omega)) ?_
    refine hg_eq1 (y := I1 22 24 (92 + i)) (by simp [hg_u3]) ?_
    refine hg_iast_n (j := i) d_M_again_201 rfl rfl (hX.lt (n := 28) ⟨by decide, by decide⟩ rfl (by omega)) (hX.jn (n := 10) (by decide) rfl (by omega)) ?_
    refine hg_iinc2 (v := nI (i + 1)) d_M_again_202 rfl (nI_add _ _) ?_
    refine hg_goto (tgt := 172) d_M_again_205 (by decide) ?_
    refine ih (i + 1) _ (by omega) (hm_k.u22 (hm_k.u22 hq (by omega)) (by omega)) ⟨?_, ?_, ?_, ?_, ?_⟩
    · intro q hq
      refine ⟨?_, ?_, ?_, ?_, ?_, ?_, ?_, ?_⟩
      · (repeat (first | rw [hg_u3k (by decide)] | (rw [hg_u3r]; first | rw [if_pos (by omega)] | rw [if_neg (by omega)]))); exact (h1 q hq).1
      · (repeat (first | rw [hg_u3k (by decide)] | (rw [hg_u3r]; first | rw [if_pos (by omega)] | rw [if_neg (by omega)]))); exact (h1 q hq).2.1
      · (repeat (first | rw [hg_u3k (by decide)] | (rw [hg_u3r]; first | rw [if_pos (by omega)] | rw [if_neg (by omega)]))); exact (h1 q hq).2.2.1
      · (repeat (first | rw [hg_u3k (by decide)] | (rw [hg_u3r]; first | rw [if_pos (by omega)] | rw [if_neg (by omega)]))); exact (h1 q hq).2.2.2.1
      · (repeat (first | rw [hg_u3k (by decide)] | (rw [hg_u3r]; first | rw [if_pos (by omega)] | rw [if_neg (by omega)]))); exact (h1 q hq).2.2.2.2.1
      · (repeat (first | rw [hg_u3k (by decide)] | (rw [hg_u3r]; first | rw [if_pos (by omega)] | rw [if_neg (by omega)]))); exact (h1 q hq).2.2.2.2.2.1
      · (repeat (first | rw [hg_u3k (by decide)] | (rw [hg_u3r]; first | rw [if_pos (by omega)] | rw [if_neg (by omega)]))); exact (h1 q hq).2.2.2.2.2.2.1
      · (repeat (first | rw [hg_u3k (by decide)] | (rw [hg_u3r]; first | rw [if_pos (by omega)] | rw [if_neg (by omega)]))); exact (h1 q hq).2.2.2.2.2.2.2
    · intro q hq
      (repeat (first | rw [hg_u3k (by decide)] | (rw [hg_u3r]; first | rw [if_pos (by omega)] | rw [if_neg (by omega)]))); exact (h2 q hq)
    · intro q hq
      refine ⟨?_, ?_⟩
      · (repeat (first | rw [hg_u3k (by decide)] | (rw [hg_u3r]; first | rw [if_pos (by omega)] | rw [if_neg (by omega)]))); exact (h3 q hq).1
      · (repeat (first | rw [hg_u3k (by decide)] | (rw [hg_u3r]; first | rw [if_pos (by omega)] | rw [if_neg (by omega)]))); exact (h3 q hq).2
    · intro q hq
      by_cases e : q = i
      · subst e; clear h1 h2 h3 h4 h5
        refine ⟨?_, ?_⟩
        · ((repeat (first | rw [hg_u3k (by decide)] | (rw [hg_u3r]; first | rw [if_pos (by omega)] | rw [if_neg (by omega)]))))
        · ((repeat (first | rw [hg_u3k (by decide)] | (rw [hg_u3r]; first | rw [if_pos (by omega)] | rw [if_neg (by omega)]))))
      · have hq : q < i := by omega
        refine ⟨?_, ?_⟩
        · ((repeat (first | rw [hg_u3k (by decide)] | (rw [hg_u3r]; first | rw [if_pos (by omega)] | rw [if_neg (by omega)])))); exact (h4 q hq).1
        · ((repeat (first | rw [hg_u3k (by decide)] | (rw [hg_u3r]; first | rw [if_pos (by omega)] | rw [if_neg (by omega)])))); exact (h4 q hq).2
    · exact fun q hq => absurd hq (Nat.not_lt_zero _)
theorem m_M_again24_3 (hX : hg_XS T X) (hR : hg_SR T Rf) : ∀ (k i : Nat) (I1 : Nat → Nat → Nat → Int32), i + k = 5 → hm_k I1 I → hk_P 6 24 i 0 0 (I1 22 24) I1 → hg_WP l E (d) Y_M_again 0 0 135 [some (.ref (hg_ad E 21 0)), some (.ref (hg_ad E 22 24)), some (.int (nI i))] [] (I1, Lg, Rf, X) (hg_v (fun M' => ∃ I' : Nat → Nat → Nat → Int32, M' = (I', Lg, Rf, X) ∧ hm_k I' I ∧ hk_P 6 24 5 10 8 (I' 22 24) I' ∧ hk_F (I' 22 24) I')) := by
  intro k
  induction k with
  | zero =>
    intro i I1 hik hq hP
    obtain rfl : i = 5 := by omega
    refine hg_iload2 d_M_again_135 ?_
    refine hg_iconst (v := 5) d_M_again_136 (by decide) ?_
    refine hg_icmp_ge (tgt := 170) d_M_again_137 (by decide) (fun h_1 => ?_) (fun h_1 => absurd (by decide) h_1)
    refine hg_iconst (v := 0) d_M_again_170 (by decide) ?_
    refine hg_istore2 d_M_again_171 rfl ?_
    exact m_M_again24_4 hX hR 10 0 I1 (by omega) hq hP
  | succ k ih =>
    intro i I1 hik hq hP
    obtain ⟨h1, h2, h3, h4, h5⟩ := hP
    refine hg_iload2 d_M_again_135 ?_
    refine hg_iconst (v := 5) d_M_again_136 (by decide) ?_
    refine hg_icmp_ge (tgt := 170) d_M_again_137 (by decide) (fun h_2 => absurd h_2 (nI_ge (a := i) (b := 5) (by omega) (by decide))) (fun h_2 => ?_)
    refine hg_aload0 d_M_again_140 ?_
    refine hg_getR d_M_again_141 f_M_64 rfl rfl (hX.lt (n := 1) ⟨by decide, by decide⟩ rfl (by omega)) (hR.m (j := 31) (q := (22, 16)) rfl) ?_
    refine hg_iload2 d_M_again_144 ?_
    refine hg_aload1 d_M_again_145 ?_
    refine hg_bipush (v := 72) d_M_again_146 (by decide) ?_
    refine hg_iload2 d_M_again_148 ?_
    refine hg_iadd d_M_again_149 ?_
    refine hg_eq1 (y := nI (72 + i)) (nI_add _ _) ?_
    refine hg_iald_n (j := (72 + i)) d_M_again_150 rfl rfl (hX.lt (n := 28) ⟨by decide, by decide⟩ rfl (by omega)) (hX.jn (n := 128) (by decide) rfl (by omega)) ?_
    refine hg_iast_n (j := i) d_M_again_151 rfl rfl (hX.lt (n := 28) ⟨by decide, by decide⟩ rfl (by omega)) (hX.jn (n := 5) (by decide) rfl (by omega)) ?_
    refine hg_aload0 d_M_again_152 ?_
    refine hg_getR d_M_again_153 f_M_67 rfl rfl (hX.lt (n := 1) ⟨by decide, by decide⟩ rfl (by omega)) (hR.m (j := 32) (q := (22, 17)) rfl) ?_
    refine hg_iload2 d_M_again_156 ?_
    refine hg_aload1 d_M_again_157 ?_
    refine hg_bipush (v := 77) d_M_again_158 (by decide) ?_
    refine hg_iload2 d_M_again_160 ?_
    refine hg_iadd d_M_again_161 ?_
    refine hg_eq1 (y := nI (77 + i)) (nI_add _ _) ?_
    refine hg_iald_n (j := (77 + i)) d_M_again_162 rfl rfl (hX.lt (n := 28) ⟨by decide, by decide⟩ rfl (by omega)) (hX.jn (n := 128) (by decide) rfl (by omega)) ?_
    refine hg_eq1 (y := I1 22 24 (77 + i)) (by simp [hg_u3]) ?_
    refine hg_iast_n (j := i) d_M_again_163 rfl rfl (hX.lt (n := 28) ⟨by decide, by decide⟩ rfl (by omega)) (hX.jn (n := 5) (by decide) rfl (by omega)) ?_
    refine hg_iinc2 (v := nI (i + 1)) d_M_again_164 rfl (nI_add _ _) ?_
    refine hg_goto (tgt := 135) d_M_again_167 (by decide) ?_
    refine ih (i + 1) _ (by omega) (hm_k.u22 (hm_k.u22 hq (by omega)) (by omega)) ⟨?_, ?_, ?_, ?_, ?_⟩
    · intro q hq
      refine ⟨?_, ?_, ?_, ?_, ?_, ?_, ?_, ?_⟩
      · (repeat (first | rw [hg_u3k (by decide)] | (rw [hg_u3r]; first | rw [if_pos (by omega)] | rw [if_neg (by omega)]))); exact (h1 q hq).1
      · (repeat (first | rw [hg_u3k (by decide)] | (rw [hg_u3r]; first | rw [if_pos (by omega)] | rw [if_neg (by omega)]))); exact (h1 q hq).2.1
      · (repeat (first | rw [hg_u3k (by decide)] | (rw [hg_u3r]; first | rw [if_pos (by omega)] | rw [if_neg (by omega)]))); exact (h1 q hq).2.2.1
      · (repeat (first | rw [hg_u3k (by decide)] | (rw [hg_u3r]; first | rw [if_pos (by omega)] | rw [if_neg (by omega)]))); exact (h1 q hq).2.2.2.1
      · (repeat (first | rw [hg_u3k (by decide)] | (rw [hg_u3r]; first | rw [if_pos (by omega)] | rw [if_neg (by omega)]))); exact (h1 q hq).2.2.2.2.1
      · (repeat (first | rw [hg_u3k (by decide)] | (rw [hg_u3r]; first | rw [if_pos (by omega)] | rw [if_neg (by omega)]))); exact (h1 q hq).2.2.2.2.2.1
      · (repeat (first | rw [hg_u3k (by decide)] | (rw [hg_u3r]; first | rw [if_pos (by omega)] | rw [if_neg (by omega)]))); exact (h1 q hq).2.2.2.2.2.2.1
      · (repeat (first | rw [hg_u3k (by decide)] | (rw [hg_u3r]; first | rw [if_pos (by omega)] | rw [if_neg (by omega)]))); exact (h1 q hq).2.2.2.2.2.2.2
    · intro q hq
      (repeat (first | rw [hg_u3k (by decide)] | (rw [hg_u3r]; first | rw [if_pos (by omega)] | rw [if_neg (by omega)]))); exact (h2 q hq)
    · intro q hq
      by_cases e : q = i
      · subst e; clear h1 h2 h3 h4 h5
        refine ⟨?_, ?_⟩
        · ((repeat (first | rw [hg_u3k (by decide)] | (rw [hg_u3r]; first | rw [if_pos (by omega)] | rw [if_neg (by omega)]))))
        · ((repeat (first | rw [hg_u3k (by decide)] | (rw [hg_u3r]; first | rw [if_pos (by omega)] | rw [if_neg (by omega)]))))
      · have hq : q < i := by omega
        refine ⟨?_, ?_⟩
        · ((repeat (first | rw [hg_u3k (by decide)] | (rw [hg_u3r]; first | rw [if_pos (by omega)] | rw [if_neg (by omega)])))); exact (h3 q hq).1
        · ((repeat (first | rw [hg_u3k (by decide)] | (rw [hg_u3r]; first | rw [if_pos (by omega)] | rw [if_neg (by omega)])))); exact (h3 q hq).2
    · exact fun q hq => absurd hq (Nat.not_lt_zero _)
    · exact fun q hq => absurd hq (Nat.not_lt_zero _)
theorem m_M_again24_2 (hX : hg_XS T X) (hR : hg_SR T Rf) : ∀ (k i : Nat) (I1 : Nat → Nat → Nat → Int32), i + k = 24 → hm_k I1 I → hk_P 6 i 0 0 0 (I1 22 24) I1 → hg_WP l E (d) Y_M_again 0 0 109 [some (.ref (hg_ad E 21 0)), some (.ref (hg_ad E 22 24)), some (.int (nI i))] [] (I1, Lg, Rf, X) (hg_v (fun M' => ∃ I' : Nat → Nat → Nat → Int32, M' = (I', Lg, Rf, X) ∧ hm_k I' I ∧ hk_P 6 24 5 10 8 (I' 22 24) I' ∧ hk_F (I' 22 24) I')) := by
  intro k
  induction k with
  | zero =>
    intro i I1 hik hq hP
    obtain rfl : i = 24 := by omega
    refine hg_iload2 d_M_again_109 ?_
    refine hg_bipush (v := 24) d_M_again_110 (by decide) ?_
    refine hg_icmp_ge (tgt := 133) d_M_again_112 (by decide) (fun h_1 => ?_) (fun h_1 => absurd (by decide) h_1)
    refine hg_iconst (v := 0) d_M_again_133 (by decide) ?_
    refine hg_istore2 d_M_again_134 rfl ?_
    exact m_M_again24_3 hX hR 5 0 I1 (by omega) hq hP
  | succ k ih =>
    intro i I1 hik hq hP
    obtain ⟨h1, h2, h3, h4, h5⟩ := hP
    refine hg_iload2 d_M_again_109 ?_
    refine hg_bipush (v := 24) d_M_again_110 (by decide) ?_
    refine hg_icmp_ge (tgt := 133) d_M_again_112 (by decide) (fun h_2 => absurd h_2 (nI_ge (a := i) (b := 24) (by omega) (by decide))) (fun h_2 => ?_)
    refine hg_aload0 d_M_again_115 ?_
    refine hg_getR d_M_again_116 f_M_33 rfl rfl (hX.lt (n := 1) ⟨by decide, by decide⟩ rfl (by omega)) (hR.m (j := 8) (q := (22, 7)) rfl) ?_
    refine hg_iload2 d_M_again_119 ?_
    refine hg_aload1 d_M_again_120 ?_
    refine hg_bipush (v := 48) d_M_again_121 (by decide) ?_
    refine hg_iload2 d_M_again_123 ?_
    refine hg_iadd d_M_again_124 ?_
    refine hg_eq1 (y := nI (48 + i)) (nI_add _ _) ?_
    refine hg_iald_n (j := (48 + i)) d_M_again_125 rfl rfl (hX.lt (n := 28) ⟨by decide, by decide⟩ rfl (by omega)) (hX.jn (n := 128) (by decide) rfl (by omega)) ?_
    refine hg_iast_n (j := i) d_M_again_126 rfl rfl (hX.lt (n := 28) ⟨by decide, by decide⟩ rfl (by omega)) (hX.jn (n := 24) (by decide) rfl (by omega)) ?_
    refine hg_iinc2 (v := nI (i + 1)) d_M_again_127 rfl (nI_add _ _) ?_
    refine hg_goto (tgt := 109) d_M_again_130 (by decide) ?_
    refine ih (i + 1) _ (by omega) (hm_k.u22 hq (by omega)) ⟨?_, ?_, ?_, ?_, ?_⟩
    · intro q hq
      refine ⟨?_, ?_, ?_, ?_, ?_, ?_, ?_, ?_⟩
      · (repeat (first | rw [hg_u3k (by decide)] | (rw [hg_u3r]; first | rw [if_pos (by omega)] | rw [if_neg (by omega)]))); exact (h1 q hq).1
      · (repeat (first | rw [hg_u3k (by decide)] | (rw [hg_u3r]; first | rw [if_pos (by omega)] | rw [if_neg (by omega)]))); exact (h1 q hq).2.1
      · (repeat (first | rw [hg_u3k (by decide)] | (rw [hg_u3r]; first | rw [if_pos (by omega)] | rw [if_neg (by omega)]))); exact (h1 q hq).2.2.1
      · (repeat (first | rw [hg_u3k (by decide)] | (rw [hg_u3r]; first | rw [if_pos (by omega)] | rw [if_neg (by omega)]))); exact (h1 q hq).2.2.2.1
      · (repeat (first | rw [hg_u3k (by decide)] | (rw [hg_u3r]; first | rw [if_pos (by omega)] | rw [if_neg (by omega)]))); exact (h1 q hq).2.2.2.2.1
      · (repeat (first | rw [hg_u3k (by decide)] | (rw [hg_u3r]; first | rw [if_pos (by omega)] | rw [if_neg (by omega)]))); exact (h1 q hq).2.2.2.2.2.1
      · (repeat (first | rw [hg_u3k (by decide)] | (rw [hg_u3r]; first | rw [if_pos (by omega)] | rw [if_neg (by omega)]))); exact (h1 q hq).2.2.2.2.2.2.1
      · (repeat (first | rw [hg_u3k (by decide)] | (rw [hg_u3r]; first | rw [if_pos (by omega)] | rw [if_neg (by omega)]))); exact (h1 q hq).2.2.2.2.2.2.2
    · intro q hq
      by_cases e : q = i
      · subst e; clear h1 h2 h3 h4 h5
        · ((repeat (first | rw [hg_u3k (by decide)] | (rw [hg_u3r]; first | rw [if_pos (by omega)] | rw [if_neg (by omega)]))))
      · have hq : q < i := by omega
        · ((repeat (first | rw [hg_u3k (by decide)] | (rw [hg_u3r]; first | rw [if_pos (by omega)] | rw [if_neg (by omega)])))); exact (h2 q hq)
    · exact fun q hq => absurd hq (Nat.not_lt_zero _)
    · exact fun q hq => absurd hq (Nat.not_lt_zero _)
    · exact fun q hq => absurd hq (Nat.not_lt_zero _)
theorem m_M_again24_1 (hX : hg_XS T X) (hR : hg_SR T Rf) : ∀ (k i : Nat) (I1 : Nat → Nat → Nat → Int32), i + k = 6 → hm_k I1 I → hk_P i 0 0 0 0 (I1 22 24) I1 → hg_WP l E (d) Y_M_again 0 0 2 [some (.ref (hg_ad E 21 0)), some (.ref (hg_ad E 22 24)), some (.int (nI i))] [] (I1, Lg, Rf, X) (hg_v (fun M' => ∃ I' : Nat → Nat → Nat → Int32, M' = (I', Lg, Rf, X) ∧ hm_k I' I ∧ hk_P 6 24 5 10 8 (I' 22 24) I' ∧ hk_F (I' 22 24) I')) := by
  intro k
  induction k with
  | zero =>
    intro i I1 hik hq hP
    obtain rfl : i = 6 := by omega
    refine hg_iload2 d_M_again_2 ?_
    refine hg_bipush (v := 6) d_M_again_3 (by decide) ?_
    refine hg_icmp_ge (tgt := 107) d_M_again_5 (by decide) (fun h_1 => ?_) (fun h_1 => absurd (by decide) h_1)
    refine hg_iconst (v := 0) d_M_again_107 (by decide) ?_
    refine hg_istore2 d_M_again_108 rfl ?_
    exact m_M_again24_2 hX hR 24 0 I1 (by omega) hq hP
  | succ k ih =>
    intro i I1 hik hq hP
    obtain ⟨h1, h2, h3, h4, h5⟩ := hP
    refine hg_iload2 d_M_again_2 ?_
    refine hg_bipush (v := 6) d_M_again_3 (by decide) ?_
    refine hg_icmp_ge (tgt := 107) d_M_again_5 (by decide) (fun h_2 => absurd h_2 (nI_ge (a := i) (b := 6) (by omega) (by decide))) (fun h_2 => ?_)
    refine hg_aload0 d_M_again_8 ?_
    refine hg_getR d_M_again_9 f_M_9 rfl rfl (hX.lt (n := 1) ⟨by decide, by decide⟩ rfl (by omega)) (hR.m (j := 1) (q := (22, 0)) rfl) ?_
    refine hg_iload2 d_M_again_12 ?_
    refine hg_aload1 d_M_again_13 ?_
    refine hg_iload2 d_M_again_14 ?_
    refine hg_iald_n (j := i) d_M_again_15 rfl rfl (hX.lt (n := 28) ⟨by decide, by decide⟩ rfl (by omega)) (hX.jn (n := 128) (by decide) rfl (by omega)) ?_
    refine hg_iast_n (j := i) d_M_again_16 rfl rfl (hX.lt (n := 28) ⟨by decide, by decide⟩ rfl (by omega)) (hX.jn (n := 6) (by decide) rfl (by omega)) ?_
    refine hg_aload0 d_M_again_17 ?_
    refine hg_getR d_M_again_18 f_M_15 rfl rfl (hX.lt (n := 1) ⟨by decide, by decide⟩ rfl (by omega)) (hR.m (j := 2) (q := (22, 1)) rfl) ?_
    refine hg_iload2 d_M_again_21 ?_
    refine hg_aload1 d_M_again_22 ?_
    refine hg_bipush (v := 6) d_M_again_23 (by decide) ?_
    refine hg_iload2 d_M_again_25 ?_
    refine hg_iadd d_M_again_26 ?_
    refine hg_eq1 (y := nI (6 + i)) (nI_add _ _) ?_
    refine hg_iald_n (j := (6 + i)) d_M_again_27 rfl rfl (hX.lt (n := 28) ⟨by decide, by decide⟩ rfl (by omega)) (hX.jn (n := 128) (by decide) rfl (by omega)) ?_
    refine hg_eq1 (y := I1 22 24 (6 + i)) (by simp [hg_u3]) ?_
    refine hg_iast_n (j := i) d_M_again_28 rfl rfl (hX.lt (n := 28) ⟨by decide, by decide⟩ rfl (by omega)) (hX.jn (n := 6) (by decide) rfl (by omega)) ?_
    refine hg_aload0 d_M_again_29 ?_
    refine hg_getR d_M_again_30 f_M_18 rfl rfl (hX.lt (n := 1) ⟨by decide, by decide⟩ rfl (by omega)) (hR.m (j := 3) (q := (22, 2)) rfl) ?_
    refine hg_iload2 d_M_again_33 ?_
    refine hg_aload1 d_M_again_34 ?_
    refine hg_bipush (v := 12) d_M_again_35 (by decide) ?_
    refine hg_iload2 d_M_again_37 ?_
    refine hg_iadd d_M_again_38 ?_
    refine hg_eq1 (y := nI (12 + i)) (nI_add _ _) ?_
    refine hg_iald_n (j := (12 + i)) d_M_again_39 rfl rfl (hX.lt (n := 28) ⟨by decide, by decide⟩ rfl (by omega)) (hX.jn (n := 128) (by decide) rfl (by omega)) ?_
    refine hg_eq1 (y := I1 22 24 (12 + i)) (by simp [hg_u3]) ?_
    refine hg_iast_n (j := i) d_M_again_40 rfl rfl (hX.lt (n := 28) ⟨by decide, by decide⟩ rfl (by omega)) (hX.jn (n := 6) (by decide) rfl (by omega)) ?_
    refine hg_aload0 d_M_again_41 ?_
    refine hg_getR d_M_again_42 f_M_21 rfl rfl (hX.lt (n := 1) ⟨by decide, by decide⟩ rfl (by omega)) (hR.m (j := 4) (q := (22, 3)) rfl) ?_
    refine hg_iload2 d_M_again_45 ?_
    refine hg_aload1 d_M_again_46 ?_
    refine hg_bipush (v := 18) d_M_again_47 (by decide) ?_
    refine hg_iload2 d_M_again_49 ?_
    refine hg_iadd d_M_again_50 ?_
    refine hg_eq1 (y := nI (18 + i)) (nI_add _ _) ?_
    refine hg_iald_n (j := (18 + i)) d_M_again_51 rfl rfl (hX.lt (n := 28) ⟨by decide, by decide⟩ rfl (by omega)) (hX.jn (n := 128) (by decide) rfl (by omega)) ?_
    refine hg_eq1 (y := I1 22 24 (18 + i)) (by simp [hg_u3]) ?_
    refine hg_iast_n (j := i) d_M_again_52 rfl rfl (hX.lt (n := 28) ⟨by decide, by decide⟩ rfl (by omega)) (hX.jn (n := 6) (by decide) rfl (by omega)) ?_
    refine hg_aload0 d_M_again_53 ?_
    refine hg_getR d_M_again_54 f_M_24 rfl rfl (hX.lt (n := 1) ⟨by decide, by decide⟩ rfl (by omega)) (hR.m (j := 5) (q := (22, 4)) rfl) ?_
    refine hg_iload2 d_M_again_57 ?_
    refine hg_aload1 d_M_again_58 ?_
    refine hg_bipush (v := 24) d_M_again_59 (by decide) ?_
    refine hg_iload2 d_M_again_61 ?_
    refine hg_iadd d_M_again_62 ?_
    refine hg_eq1 (y := nI (24 + i)) (nI_add _ _) ?_
    refine hg_iald_n (j := (24 + i)) d_M_again_63 rfl rfl (hX.lt (n := 28) ⟨by decide, by decide⟩ rfl (by omega)) (hX.jn (n := 128) (by decide) rfl (by omega)) ?_
    refine hg_eq1 (y := I1 22 24 (24 + i)) (by simp [hg_u3]) ?_
    refine hg_iast_n (j := i) d_M_again_64 rfl rfl (hX.lt (n := 28) ⟨by decide, by decide⟩ rfl (by omega)) (hX.jn (n := 6) (by decide) rfl (by omega)) ?_
    refine hg_aload0 d_M_again_65 ?_
    refine hg_getR d_M_again_66 f_M_27 rfl rfl (hX.lt (n := 1) ⟨by decide, by decide⟩ rfl (by omega)) (hR.m (j := 6) (q := (22, 5)) rfl) ?_
    refine hg_iload2 d_M_again_69 ?_
    refine hg_aload1 d_M_again_70 ?_
    refine hg_bipush (v := 30) d_M_again_71 (by decide) ?_
    refine hg_iload2 d_M_again_73 ?_
    refine hg_iadd d_M_again_74 ?_
    refine hg_eq1 (y := nI (30 + i)) (nI_add _ _) ?_
    refine hg_iald_n (j := (30 + i)) d_M_again_75 rfl rfl (hX.lt (n := 28) ⟨by decide, by decide⟩ rfl (by omega)) (hX.jn (n := 128) (by decide) rfl (by omega)) ?_
    refine hg_eq1 (y := I1 22 24 (30 + i)) (by simp [hg_u3]) ?_
    refine hg_iast_n (j := i) d_M_again_76 rfl rfl (hX.lt (n := 28) ⟨by decide, by decide⟩ rfl (by omega)) (hX.jn (n := 6) (by decide) rfl (by omega)) ?_
    refine hg_aload0 d_M_again_77 ?_
    refine hg_getR d_M_again_78 f_M_30 rfl rfl (hX.lt (n := 1) ⟨by decide, by decide⟩ rfl (by omega)) (hR.m (j := 7) (q := (22, 6)) rfl) ?_
    refine hg_iload2 d_M_again_81 ?_
    refine hg_aload1 d_M_again_82 ?_
    refine hg_bipush (v := 36) d_M_again_83 (by decide) ?_
    refine hg_iload2 d_M_again_85 ?_
    refine hg_iadd d_M_again_86 ?_
    refine hg_eq1 (y := nI (36 + i)) (nI_add _ _) ?_
    refine hg_iald_n (j := (36 + i)) d_M_again_87 rfl rfl (hX.lt (n := 28) ⟨by decide, by decide⟩ rfl (by omega)) (hX.jn (n := 128) (by decide) rfl (by omega)) ?_
    refine hg_eq1 (y := I1 22 24 (36 + i)) (by simp [hg_u3]) ?_
    refine hg_iast_n (j := i) d_M_again_88 rfl rfl (hX.lt (n := 28) ⟨by decide, by decide⟩ rfl (by omega)) (hX.jn (n := 6) (by decide) rfl (by omega)) ?_
    refine hg_aload0 d_M_again_89 ?_
    refine hg_getR d_M_again_90 f_M_36 rfl rfl (hX.lt (n := 1) ⟨by decide, by decide⟩ rfl (by omega)) (hR.m (j := 9) (q := (22, 8)) rfl) ?_
    refine hg_iload2 d_M_again_93 ?_
    refine hg_aload1 d_M_again_94 ?_
    refine hg_bipush (v := 42) d_M_again_95 (by decide) ?_
    refine hg_iload2 d_M_again_97 ?_
    refine hg_iadd d_M_again_98 ?_
    refine hg_eq1 (y := nI (42 + i)) (nI_add _ _) ?_
    refine hg_iald_n (j := (42 + i)) d_M_again_99 rfl rfl (hX.lt (n := 28) ⟨by decide, by decide⟩ rfl (by omega)) (hX.jn (n := 128) (by decide) rfl (by omega)) ?_
    refine hg_eq1 (y := I1 22 24 (42 + i)) (by simp [hg_u3]) ?_
    refine hg_iast_n (j := i) d_M_again_100 rfl rfl (hX.lt (n := 28) ⟨by decide, by decide⟩ rfl (by omega)) (hX.jn (n := 6) (by decide) rfl (by omega)) ?_
    refine hg_iinc2 (v := nI (i + 1)) d_M_again_101 rfl (nI_add _ _) ?_
    refine hg_goto (tgt := 2) d_M_again_104 (by decide) ?_
    refine ih (i + 1) _ (by omega) (hm_k.u22 (hm_k.u22 (hm_k.u22 (hm_k.u22 (hm_k.u22 (hm_k.u22 (hm_k.u22 (hm_k.u22 hq (by omega)) (by omega)) (by omega)) (by omega)) (by omega)) (by omega)) (by omega)) (by omega)) ⟨?_, ?_, ?_, ?_, ?_⟩
    · intro q hq
      by_cases e : q = i
      · subst e; clear h1 h2 h3 h4 h5
        refine ⟨?_, ?_, ?_, ?_, ?_, ?_, ?_, ?_⟩
        · ((repeat (first | rw [hg_u3k (by decide)] | (rw [hg_u3r]; first | rw [if_pos (by omega)] | rw [if_neg (by omega)]))))
        · ((repeat (first | rw [hg_u3k (by decide)] | (rw [hg_u3r]; first | rw [if_pos (by omega)] | rw [if_neg (by omega)]))))
        · ((repeat (first | rw [hg_u3k (by decide)] | (rw [hg_u3r]; first | rw [if_pos (by omega)] | rw [if_neg (by omega)]))))
        · ((repeat (first | rw [hg_u3k (by decide)] | (rw [hg_u3r]; first | rw [if_pos (by omega)] | rw [if_neg (by omega)]))))
        · ((repeat (first | rw [hg_u3k (by decide)] | (rw [hg_u3r]; first | rw [if_pos (by omega)] | rw [if_neg (by omega)]))))
        · ((repeat (first | rw [hg_u3k (by decide)] | (rw [hg_u3r]; first | rw [if_pos (by omega)] | rw [if_neg (by omega)]))))
        · ((repeat (first | rw [hg_u3k (by decide)] | (rw [hg_u3r]; first | rw [if_pos (by omega)] | rw [if_neg (by omega)]))))
        · ((repeat (first | rw [hg_u3k (by decide)] | (rw [hg_u3r]; first | rw [if_pos (by omega)] | rw [if_neg (by omega)]))))
      · have hq : q < i := by omega
        refine ⟨?_, ?_, ?_, ?_, ?_, ?_, ?_, ?_⟩
        · ((repeat (first | rw [hg_u3k (by decide)] | (rw [hg_u3r]; first | rw [if_pos (by omega)] | rw [if_neg (by omega)])))); exact (h1 q hq).1
        · ((repeat (first | rw [hg_u3k (by decide)] | (rw [hg_u3r]; first | rw [if_pos (by omega)] | rw [if_neg (by omega)])))); exact (h1 q hq).2.1
        · ((repeat (first | rw [hg_u3k (by decide)] | (rw [hg_u3r]; first | rw [if_pos (by omega)] | rw [if_neg (by omega)])))); exact (h1 q hq).2.2.1
        · ((repeat (first | rw [hg_u3k (by decide)] | (rw [hg_u3r]; first | rw [if_pos (by omega)] | rw [if_neg (by omega)])))); exact (h1 q hq).2.2.2.1
        · ((repeat (first | rw [hg_u3k (by decide)] | (rw [hg_u3r]; first | rw [if_pos (by omega)] | rw [if_neg (by omega)])))); exact (h1 q hq).2.2.2.2.1
        · ((repeat (first | rw [hg_u3k (by decide)] | (rw [hg_u3r]; first | rw [if_pos (by omega)] | rw [if_neg (by omega)])))); exact (h1 q hq).2.2.2.2.2.1
        · ((repeat (first | rw [hg_u3k (by decide)] | (rw [hg_u3r]; first | rw [if_pos (by omega)] | rw [if_neg (by omega)])))); exact (h1 q hq).2.2.2.2.2.2.1
        · ((repeat (first | rw [hg_u3k (by decide)] | (rw [hg_u3r]; first | rw [if_pos (by omega)] | rw [if_neg (by omega)])))); exact (h1 q hq).2.2.2.2.2.2.2
    · exact fun q hq => absurd hq (Nat.not_lt_zero _)
    · exact fun q hq => absurd hq (Nat.not_lt_zero _)
    · exact fun q hq => absurd hq (Nat.not_lt_zero _)
    · exact fun q hq => absurd hq (Nat.not_lt_zero _)
theorem m_M_again24 (hX : hg_XS T X) (hR : hg_SR T Rf) : hg_MC l E (d + 1) Y_M_again 0 0 [.ref (hg_ad E 21 0), .ref (hg_ad E 22 24)] (I, Lg, Rf, X) (hg_v (fun M' => ∃ I' : Nat → Nat → Nat → Int32, M' = (I', Lg, Rf, X) ∧ hm_k I' I ∧ hk_P 6 24 5 10 8 (I' 22 24) I' ∧ hk_F (I' 22 24) I')) := by
  refine hg_mc k_M_again (Nat.le_of_ble_eq_true rfl) ?_
  show hg_WP l E _ Y_M_again 0 0 0 [some (.ref (hg_ad E 21 0)), some (.ref (hg_ad E 22 24)), none] [] (I, Lg, Rf, X) _
  refine hg_iconst (v := 0) d_M_again_0 (by decide) ?_
  refine hg_istore2 d_M_again_1 rfl ?_
  exact m_M_again24_1 hX hR 6 0 I (by omega) hm_k.rf ⟨fun q hq => absurd hq (Nat.not_lt_zero _), fun q hq => absurd hq (Nat.not_lt_zero _), fun q hq => absurd hq (Nat.not_lt_zero _), fun q hq => absurd hq (Nat.not_lt_zero _), fun q hq => absurd hq (Nat.not_lt_zero _)⟩

end M32
