/-! the law: a row of the script -/
section M52
variable {l : Launch} {E : hg_E} {d mc ms : Nat} 
variable {I : Nat → Nat → Nat → Int32} {Lg : Nat → Nat → Nat → Int64} {Rf : Nat → Nat → Nat → Option (Nat × Nat)} {X : Nat × (Nat → Nat) × (Nat → Nat → Nat)}
variable {I' : Nat → Nat → Nat → Int32} {Lg' : Nat → Nat → Nat → Int64} {G : hs_G}
theorem hs_MR.kp {Rf' : Nat → Nat → Nat → Option (Nat × Nat)} (h : hs_MR G I Lg) (e : hg_kp I' I Lg' Lg Rf' Rf) : hs_MR G I' Lg' := by
  unfold hs_MR hs_MG hs_MS hs_ML hs_Mx hs_Mp hs_MT hs_Mt at h ⊢
  rw [(e 21 (by decide)).1, (e 22 (by decide)).1, (e 23 (by decide)).2.1]; exact h
theorem hs_CR.lo (h : hs_CR G I Lg Rf X) (e : ∀ k, k < 21 → I' k = I k) (e2 : ∀ k, k < 21 → Lg' k = Lg k) : hs_CR G I' Lg' Rf X := by
  unfold hs_CR hs_C hs_LR tk_C hs_PR hc_TW at h ⊢
  rw [e 0 (by decide), e 1 (by decide), e 3 (by decide), e 4 (by decide), e 5 (by decide), e 7 (by decide), e 8 (by decide), e 9 (by decide), e 10 (by decide), e 11 (by decide), e 13 (by decide), e 14 (by decide), e 16 (by decide), e 19 (by decide), e 20 (by decide), e2 17 (by decide)]; exact h
theorem m_L_c0 {i : Nat} (hR0 : hs_CR G I Lg Rf X) (hM0 : hs_MR G I Lg) (hG : hs_gok G) (hi : i + 6 ≤ E.2.2.2.2.2.1) (hN : E.2.2.2.2.2.1 ≤ 3072) (K : ∀ (G' : hs_G) (I' : Nat → Nat → Nat → Int32) (Lg' : Nat → Nat → Nat → Int64) (Rf' : Nat → Nat → Nat → Option (Nat × Nat)) (X' : Nat × (Nat → Nat) × (Nat → Nat → Nat)), hs_CR G' I' Lg' Rf' X' → hs_MR G' I' Lg' → hs_gok G' → hg_WP l E (d + 23) Y_L_law mc ms 1231 [some (.ref (hg_ex E 0)), some (.ref (hg_ad E 0 0)), some (.ref (hg_ad E 21 0)), some (.int (nI i))] [] (I', Lg', Rf', X') (hg_i (fun v _ => v = 1))) : hg_WP l E (d + 23) Y_L_law mc ms 176 [some (.ref (hg_ex E 0)), some (.ref (hg_ad E 0 0)), some (.ref (hg_ad E 21 0)), some (.int (nI i))] [] (I, Lg, Rf, X) (hg_i (fun v _ => v = 1)) := by
  have hX := hR0.cX
  refine hg_aload1 d_L_law_176 ?_
  refine hg_aload0 d_L_law_177 ?_
  refine hg_iload3 d_L_law_178 ?_
  refine hg_iconst (v := 1) d_L_law_179 (by decide) ?_
  refine hg_iadd d_L_law_180 ?_
  refine hg_eq1 (y := nI (i + 1)) (nI_add _ _) ?_
  refine hg_ialdT_n (j := (i + 1)) d_L_law_181 (fun s h => hx_scr h) (by omega) (by omega) ?_
  refine hg_aload0 d_L_law_182 ?_
  refine hg_iload3 d_L_law_183 ?_
  refine hg_iconst (v := 2) d_L_law_184 (by decide) ?_
  refine hg_iadd d_L_law_185 ?_
  refine hg_eq1 (y := nI (i + 2)) (nI_add _ _) ?_
  refine hg_ialdT_n (j := (i + 2)) d_L_law_186 (fun s h => hx_scr h) (by omega) (by omega) ?_
  refine hg_aload0 d_L_law_187 ?_
  refine hg_iload3 d_L_law_188 ?_
  refine hg_iconst (v := 3) d_L_law_189 (by decide) ?_
  refine hg_iadd d_L_law_190 ?_
  refine hg_eq1 (y := nI (i + 3)) (nI_add _ _) ?_
  refine hg_ialdT_n (j := (i + 3)) d_L_law_191 (fun s h => hx_scr h) (by omega) (by omega) ?_
  refine hg_cVi d_L_law_192 l_L_13 rfl rfl (hX.lt (n := 1) ⟨by decide, by decide⟩ rfl (by omega)) rfl (Nat.le_of_ble_eq_true rfl) (m_D_house hR0 hG) rfl ?_
  rintro _ _ ⟨rfl, I1, Lg1, Rf1, X1, rfl, hR1, kp1⟩
  have eT : gT (so_house G (E.2.2.2.2.2.2 (i + 1)) (E.2.2.2.2.2.2 (i + 2)) (E.2.2.2.2.2.2 (i + 3))).2 = gT G := by unfold so_house; (repeat' split) <;> rfl
  have hX1 : hg_XS (gT G) X1 := by have := hR1.cX; rwa [eT] at this
  have hRf1 : hg_SR (gT G) Rf1 := by have := hR1.cR; rwa [eT] at this
  have hM1 := hM0.kp kp1
  have hX := hR1.cX
  refine hg_aload2 d_L_law_195 ?_
  refine hg_aload0 d_L_law_196 ?_
  refine hg_iload3 d_L_law_197 ?_
  refine hg_iconst (v := 1) d_L_law_198 (by decide) ?_
  refine hg_iadd d_L_law_199 ?_
  refine hg_eq1 (y := nI (i + 1)) (nI_add _ _) ?_
  refine hg_ialdT_n (j := (i + 1)) d_L_law_200 (fun s h => hx_scr h) (by omega) (by omega) ?_
  refine hg_aload0 d_L_law_201 ?_
  refine hg_iload3 d_L_law_202 ?_
  refine hg_iconst (v := 2) d_L_law_203 (by decide) ?_
  refine hg_iadd d_L_law_204 ?_
  refine hg_eq1 (y := nI (i + 2)) (nI_add _ _) ?_
  refine hg_ialdT_n (j := (i + 2)) d_L_law_205 (fun s h => hx_scr h) (by omega) (by omega) ?_
  refine hg_aload0 d_L_law_206 ?_
  refine hg_iload3 d_L_law_207 ?_
  refine hg_iconst (v := 3) d_L_law_208 (by decide) ?_
  refine hg_iadd d_L_law_209 ?_
  refine hg_eq1 (y := nI (i + 3)) (nI_add _ _) ?_
  refine hg_ialdT_n (j := (i + 3)) d_L_law_210 (fun s h => hx_scr h) (by omega) (by omega) ?_
  refine hg_cVi d_L_law_211 l_L_17 rfl rfl (hX.lt (n := 1) ⟨by decide, by decide⟩ rfl (by omega)) rfl (Nat.le_of_ble_eq_true rfl) (m_M_house hX1 hRf1 hM1 hG) rfl ?_
  rintro _ _ ⟨rfl, I2, Lg2, rfl, hM2, lo2, loL2⟩
  refine hg_icmp_eq (tgt := 1231) d_L_law_214 (by decide) (fun h_1 => ?_) (fun h_1 => absurd (rfl) h_1)
  exact K _ I2 Lg2 Rf1 X1 (hR1.lo lo2 loL2) hM2 (go_house hG)
theorem m_L_c1 {i : Nat} (hR0 : hs_CR G I Lg Rf X) (hM0 : hs_MR G I Lg) (hG : hs_gok G) (hi : i + 6 ≤ E.2.2.2.2.2.1) (hN : E.2.2.2.2.2.1 ≤ 3072) (K : ∀ (G' : hs_G) (I' : Nat → Nat → Nat → Int32) (Lg' : Nat → Nat → Nat → Int64) (Rf' : Nat → Nat → Nat → Option (Nat × Nat)) (X' : Nat × (Nat → Nat) × (Nat → Nat → Nat)), hs_CR G' I' Lg' Rf' X' → hs_MR G' I' Lg' → hs_gok G' → hg_WP l E (d + 23) Y_L_law mc ms 1231 [some (.ref (hg_ex E 0)), some (.ref (hg_ad E 0 0)), some (.ref (hg_ad E 21 0)), some (.int (nI i))] [] (I', Lg', Rf', X') (hg_i (fun v _ => v = 1))) : hg_WP l E (d + 23) Y_L_law mc ms 219 [some (.ref (hg_ex E 0)), some (.ref (hg_ad E 0 0)), some (.ref (hg_ad E 21 0)), some (.int (nI i))] [] (I, Lg, Rf, X) (hg_i (fun v _ => v = 1)) := by
  have hX := hR0.cX
  refine hg_aload1 d_L_law_219 ?_
  refine hg_aload0 d_L_law_220 ?_
  refine hg_iload3 d_L_law_221 ?_
  refine hg_iconst (v := 1) d_L_law_222 (by decide) ?_
  refine hg_iadd d_L_law_223 ?_
  refine hg_eq1 (y := nI (i + 1)) (nI_add _ _) ?_
  refine hg_ialdT_n (j := (i + 1)) d_L_law_224 (fun s h => hx_scr h) (by omega) (by omega) ?_
  refine hg_aload0 d_L_law_225 ?_
  refine hg_iload3 d_L_law_226 ?_
  refine hg_iconst (v := 2) d_L_law_227 (by decide) ?_
  refine hg_iadd d_L_law_228 ?_
  refine hg_eq1 (y := nI (i + 2)) (nI_add _ _) ?_
  refine hg_ialdT_n (j := (i + 2)) d_L_law_229 (fun s h => hx_scr h) (by omega) (by omega) ?_
  refine hg_cVi d_L_law_230 l_L_18 rfl rfl (hX.lt (n := 1) ⟨by decide, by decide⟩ rfl (by omega)) rfl (Nat.le_of_ble_eq_true rfl) (m_D_of (hR0.q hG) hG.2.1) rfl ?_
  rintro _ _ hA
  obtain ⟨rfl, I1, Lg1, Rf1, X1, rfl, hR1, kp1⟩ := hq_A.cp hR0 hG hA
  have hX1 := hR1.cX
  have hRf1 := hR1.cR
  have hM1 := hM0.kp kp1
  have hX := hR1.cX
  refine hg_aload2 d_L_law_233 ?_
  refine hg_aload0 d_L_law_234 ?_
  refine hg_iload3 d_L_law_235 ?_
  refine hg_iconst (v := 1) d_L_law_236 (by decide) ?_
  refine hg_iadd d_L_law_237 ?_
  refine hg_eq1 (y := nI (i + 1)) (nI_add _ _) ?_
  refine hg_ialdT_n (j := (i + 1)) d_L_law_238 (fun s h => hx_scr h) (by omega) (by omega) ?_
  refine hg_aload0 d_L_law_239 ?_
  refine hg_iload3 d_L_law_240 ?_
  refine hg_iconst (v := 2) d_L_law_241 (by decide) ?_
  refine hg_iadd d_L_law_242 ?_
  refine hg_eq1 (y := nI (i + 2)) (nI_add _ _) ?_
  refine hg_ialdT_n (j := (i + 2)) d_L_law_243 (fun s h => hx_scr h) (by omega) (by omega) ?_
  refine hg_cVi d_L_law_244 l_L_22 rfl rfl (hX.lt (n := 1) ⟨by decide, by decide⟩ rfl (by omega)) rfl (Nat.le_of_ble_eq_true rfl) (m_M_of hX1 hRf1 hM1 hG) rfl ?_
  rintro _ _ ⟨rfl, I2, Lg2, rfl, hM2, lo2, loL2⟩
  refine hg_icmp_eq (tgt := 1231) d_L_law_247 (by decide) (fun h_1 => ?_) (fun h_1 => absurd (rfl) h_1)
  exact K _ I2 Lg2 Rf1 X1 (hR1.lo lo2 loL2) hM2 hG
theorem m_L_c2 {i : Nat} (hR0 : hs_CR G I Lg Rf X) (hM0 : hs_MR G I Lg) (hG : hs_gok G) (hi : i + 6 ≤ E.2.2.2.2.2.1) (hN : E.2.2.2.2.2.1 ≤ 3072) (K : ∀ (G' : hs_G) (I' : Nat → Nat → Nat → Int32) (Lg' : Nat → Nat → Nat → Int64) (Rf' : Nat → Nat → Nat → Option (Nat × Nat)) (X' : Nat × (Nat → Nat) × (Nat → Nat → Nat)), hs_CR G' I' Lg' Rf' X' → hs_MR G' I' Lg' → hs_gok G' → hg_WP l E (d + 23) Y_L_law mc ms 1231 [some (.ref (hg_ex E 0)), some (.ref (hg_ad E 0 0)), some (.ref (hg_ad E 21 0)), some (.int (nI i))] [] (I', Lg', Rf', X') (hg_i (fun v _ => v = 1))) : hg_WP l E (d + 23) Y_L_law mc ms 252 [some (.ref (hg_ex E 0)), some (.ref (hg_ad E 0 0)), some (.ref (hg_ad E 21 0)), some (.int (nI i))] [] (I, Lg, Rf, X) (hg_i (fun v _ => v = 1)) := by
  have hX := hR0.cX
  refine hg_aload1 d_L_law_252 ?_
  refine hg_aload0 d_L_law_253 ?_
  refine hg_iload3 d_L_law_254 ?_
  refine hg_iconst (v := 1) d_L_law_255 (by decide) ?_
  refine hg_iadd d_L_law_256 ?_
  refine hg_eq1 (y := nI (i + 1)) (nI_add _ _) ?_
  refine hg_ialdT_n (j := (i + 1)) d_L_law_257 (fun s h => hx_scr h) (by omega) (by omega) ?_
  refine hg_aload0 d_L_law_258 ?_
  refine hg_iload3 d_L_law_259 ?_
  refine hg_iconst (v := 2) d_L_law_260 (by decide) ?_
  refine hg_iadd d_L_law_261 ?_
  refine hg_eq1 (y := nI (i + 2)) (nI_add _ _) ?_
  refine hg_ialdT_n (j := (i + 2)) d_L_law_262 (fun s h => hx_scr h) (by omega) (by omega) ?_
  refine hg_aload0 d_L_law_263 ?_
  refine hg_iload3 d_L_law_264 ?_
  refine hg_iconst (v := 3) d_L_law_265 (by decide) ?_
  refine hg_iadd d_L_law_266 ?_
  refine hg_eq1 (y := nI (i + 3)) (nI_add _ _) ?_
  refine hg_ialdT_n (j := (i + 3)) d_L_law_267 (fun s h => hx_scr h) (by omega) (by omega) ?_
  refine hg_cVi d_L_law_268 l_L_23 rfl rfl (hX.lt (n := 1) ⟨by decide, by decide⟩ rfl (by omega)) rfl (Nat.le_of_ble_eq_true rfl) (m_D_set hR0 hG) rfl ?_
  rintro _ _ ⟨rfl, I1, Lg1, Rf1, X1, rfl, hR1, kp1⟩
  have eT : gT (so_set G (E.2.2.2.2.2.2 (i + 1)) (E.2.2.2.2.2.2 (i + 2)) (E.2.2.2.2.2.2 (i + 3))).2 = gT G := by unfold so_set; (repeat' split) <;> rfl
  have hX1 : hg_XS (gT G) X1 := by have := hR1.cX; rwa [eT] at this
  have hRf1 : hg_SR (gT G) Rf1 := by have := hR1.cR; rwa [eT] at this
  have hM1 := hM0.kp kp1
  have hX := hR1.cX
  refine hg_aload2 d_L_law_271 ?_
  refine hg_aload0 d_L_law_272 ?_
  refine hg_iload3 d_L_law_273 ?_
  refine hg_iconst (v := 1) d_L_law_274 (by decide) ?_
  refine hg_iadd d_L_law_275 ?_
  refine hg_eq1 (y := nI (i + 1)) (nI_add _ _) ?_
  refine hg_ialdT_n (j := (i + 1)) d_L_law_276 (fun s h => hx_scr h) (by omega) (by omega) ?_
  refine hg_aload0 d_L_law_277 ?_
  refine hg_iload3 d_L_law_278 ?_
  refine hg_iconst (v := 2) d_L_law_279 (by decide) ?_
  refine hg_iadd d_L_law_280 ?_
  refine hg_eq1 (y := nI (i + 2)) (nI_add _ _) ?_
  refine hg_ialdT_n (j := (i + 2)) d_L_law_281 (fun s h => hx_scr h) (by omega) (by omega) ?_
  refine hg_aload0 d_L_law_282 ?_
  refine hg_iload3 d_L_law_283 ?_
  refine hg_iconst (v := 3) d_L_law_284 (by decide) ?_
  refine hg_iadd d_L_law_285 ?_
  refine hg_eq1 (y := nI (i + 3)) (nI_add _ _) ?_
  refine hg_ialdT_n (j := (i + 3)) d_L_law_286 (fun s h => hx_scr h) (by omega) (by omega) ?_
  refine hg_cVi d_L_law_287 l_L_26 rfl rfl (hX.lt (n := 1) ⟨by decide, by decide⟩ rfl (by omega)) rfl (Nat.le_of_ble_eq_true rfl) (m_M_set hX1 hRf1 hM1 hG) rfl ?_
  rintro _ _ ⟨rfl, I2, Lg2, rfl, hM2, lo2, loL2⟩
  refine hg_icmp_eq (tgt := 1231) d_L_law_290 (by decide) (fun h_1 => ?_) (fun h_1 => absurd (rfl) h_1)
  exact K _ I2 Lg2 Rf1 X1 (hR1.lo lo2 loL2) hM2 (go_set hG)
theorem m_L_c3 {i : Nat} (hR0 : hs_CR G I Lg Rf X) (hM0 : hs_MR G I Lg) (hG : hs_gok G) (hi : i + 6 ≤ E.2.2.2.2.2.1) (hN : E.2.2.2.2.2.1 ≤ 3072) (K : ∀ (G' : hs_G) (I' : Nat → Nat → Nat → Int32) (Lg' : Nat → Nat → Nat → Int64) (Rf' : Nat → Nat → Nat → Option (Nat × Nat)) (X' : Nat × (Nat → Nat) × (Nat → Nat → Nat)), hs_CR G' I' Lg' Rf' X' → hs_MR G' I' Lg' → hs_gok G' → hg_WP l E (d + 23) Y_L_law mc ms 1231 [some (.ref (hg_ex E 0)), some (.ref (hg_ad E 0 0)), some (.ref (hg_ad E 21 0)), some (.int (nI i))] [] (I', Lg', Rf', X') (hg_i (fun v _ => v = 1))) : hg_WP l E (d + 23) Y_L_law mc ms 295 [some (.ref (hg_ex E 0)), some (.ref (hg_ad E 0 0)), some (.ref (hg_ad E 21 0)), some (.int (nI i))] [] (I, Lg, Rf, X) (hg_i (fun v _ => v = 1)) := by
  have hX := hR0.cX
  refine hg_aload1 d_L_law_295 ?_
  refine hg_aload0 d_L_law_296 ?_
  refine hg_iload3 d_L_law_297 ?_
  refine hg_iconst (v := 1) d_L_law_298 (by decide) ?_
  refine hg_iadd d_L_law_299 ?_
  refine hg_eq1 (y := nI (i + 1)) (nI_add _ _) ?_
  refine hg_ialdT_n (j := (i + 1)) d_L_law_300 (fun s h => hx_scr h) (by omega) (by omega) ?_
  refine hg_aload0 d_L_law_301 ?_
  refine hg_iload3 d_L_law_302 ?_
  refine hg_iconst (v := 2) d_L_law_303 (by decide) ?_
  refine hg_iadd d_L_law_304 ?_
  refine hg_eq1 (y := nI (i + 2)) (nI_add _ _) ?_
  refine hg_ialdT_n (j := (i + 2)) d_L_law_305 (fun s h => hx_scr h) (by omega) (by omega) ?_
  refine hg_if_eq (tgt := 313) d_L_law_306 (by decide) (fun hb => ?_) (fun hb => ?_)
  · refine hg_iconst (v := 0) d_L_law_313 (by decide) ?_
    refine hg_cVi d_L_law_314 l_L_27 rfl rfl (hX.lt (n := 1) ⟨by decide, by decide⟩ rfl (by omega)) rfl (Nat.le_of_ble_eq_true rfl) (m_D_shut (by decide) hR0 hG) rfl ?_
    rintro _ _ ⟨rfl, I1, Lg1, Rf1, X1, rfl, hR1, kp1⟩
    have eT : gT (so_shut G (E.2.2.2.2.2.2 (i + 1)) 0).2 = gT G := by unfold so_shut; (repeat' split) <;> rfl
    have hX1 : hg_XS (gT G) X1 := by have := hR1.cX; rwa [eT] at this
    have hRf1 : hg_SR (gT G) Rf1 := by have := hR1.cR; rwa [eT] at this
    have hM1 := hM0.kp kp1
    have hX := hR1.cX
    refine hg_aload2 d_L_law_317 ?_
    refine hg_aload0 d_L_law_318 ?_
    refine hg_iload3 d_L_law_319 ?_
    refine hg_iconst (v := 1) d_L_law_320 (by decide) ?_
    refine hg_iadd d_L_law_321 ?_
    refine hg_eq1 (y := nI (i + 1)) (nI_add _ _) ?_
    refine hg_ialdT_n (j := (i + 1)) d_L_law_322 (fun s h => hx_scr h) (by omega) (by omega) ?_
    refine hg_aload0 d_L_law_323 ?_
    refine hg_iload3 d_L_law_324 ?_
    refine hg_iconst (v := 2) d_L_law_325 (by decide) ?_
    refine hg_iadd d_L_law_326 ?_
    refine hg_eq1 (y := nI (i + 2)) (nI_add _ _) ?_
    refine hg_ialdT_n (j := (i + 2)) d_L_law_327 (fun s h => hx_scr h) (by omega) (by omega) ?_
    refine hg_if_eq (tgt := 335) d_L_law_328 (by decide) (fun h_1 => ?_) (fun h_1 => absurd (hb) h_1)
    refine hg_iconst (v := 0) d_L_law_335 (by decide) ?_
    refine hg_cVi d_L_law_336 l_L_31 rfl rfl (hX.lt (n := 1) ⟨by decide, by decide⟩ rfl (by omega)) rfl (Nat.le_of_ble_eq_true rfl) (m_M_shut hX1 hRf1 hM1 hG (by decide)) rfl ?_
    rintro _ _ ⟨rfl, I2, Lg2, rfl, hM2, lo2, loL2⟩
    refine hg_icmp_eq (tgt := 1231) d_L_law_339 (by decide) (fun h_2 => ?_) (fun h_2 => absurd (rfl) h_2)
    exact K _ I2 Lg2 Rf1 X1 (hR1.lo lo2 loL2) hM2 (go_shut (by decide) hG)
  · refine hg_iconst (v := 1) d_L_law_309 (by decide) ?_
    refine hg_goto (tgt := 314) d_L_law_310 (by decide) ?_
    refine hg_cVi d_L_law_314 l_L_27 rfl rfl (hX.lt (n := 1) ⟨by decide, by decide⟩ rfl (by omega)) rfl (Nat.le_of_ble_eq_true rfl) (m_D_shut (by decide) hR0 hG) rfl ?_
    rintro _ _ ⟨rfl, I1, Lg1, Rf1, X1, rfl, hR1, kp1⟩
    have eT : gT (so_shut G (E.2.2.2.2.2.2 (i + 1)) 1).2 = gT G := by unfold so_shut; (repeat' split) <;> rfl
    have hX1 : hg_XS (gT G) X1 := by have := hR1.cX; rwa [eT] at this
    have hRf1 : hg_SR (gT G) Rf1 := by have := hR1.cR; rwa [eT] at this
    have hM1 := hM0.kp kp1
    have hX := hR1.cX
    refine hg_aload2 d_L_law_317 ?_
    refine hg_aload0 d_L_law_318 ?_
    refine hg_iload3 d_L_law_319 ?_
    refine hg_iconst (v := 1) d_L_law_320 (by decide) ?_
    refine hg_iadd d_L_law_321 ?_
    refine hg_eq1 (y := nI (i + 1)) (nI_add _ _) ?_
    refine hg_ialdT_n (j := (i + 1)) d_L_law_322 (fun s h => hx_scr h) (by omega) (by omega) ?_
    refine hg_aload0 d_L_law_323 ?_
    refine hg_iload3 d_L_law_324 ?_
    refine hg_iconst (v := 2) d_L_law_325 (by decide) ?_
    refine hg_iadd d_L_law_326 ?_
    refine hg_eq1 (y := nI (i + 2)) (nI_add _ _) ?_
    refine hg_ialdT_n (j := (i + 2)) d_L_law_327 (fun s h => hx_scr h) (by omega) (by omega) ?_
    refine hg_if_eq (tgt := 335) d_L_law_328 (by decide) (fun h_3 => absurd h_3 (hb)) (fun h_3 => ?_)
    refine hg_iconst (v := 1) d_L_law_331 (by decide) ?_
    refine hg_goto (tgt := 336) d_L_law_332 (by decide) ?_
    refine hg_cVi d_L_law_336 l_L_31 rfl rfl (hX.lt (n := 1) ⟨by decide, by decide⟩ rfl (by omega)) rfl (Nat.le_of_ble_eq_true rfl) (m_M_shut hX1 hRf1 hM1 hG (by decide)) rfl ?_
    rintro _ _ ⟨rfl, I2, Lg2, rfl, hM2, lo2, loL2⟩
    refine hg_icmp_eq (tgt := 1231) d_L_law_339 (by decide) (fun h_4 => ?_) (fun h_4 => absurd (rfl) h_4)
    exact K _ I2 Lg2 Rf1 X1 (hR1.lo lo2 loL2) hM2 (go_shut (by decide) hG)
theorem m_L_c4 {i : Nat} (hR0 : hs_CR G I Lg Rf X) (hM0 : hs_MR G I Lg) (hG : hs_gok G) (hi : i + 6 ≤ E.2.2.2.2.2.1) (hN : E.2.2.2.2.2.1 ≤ 3072) (K : ∀ (G' : hs_G) (I' : Nat → Nat → Nat → Int32) (Lg' : Nat → Nat → Nat → Int64) (Rf' : Nat → Nat → Nat → Option (Nat × Nat)) (X' : Nat × (Nat → Nat) × (Nat → Nat → Nat)), hs_CR G' I' Lg' Rf' X' → hs_MR G' I' Lg' → hs_gok G' → hg_WP l E (d + 23) Y_L_law mc ms 1231 [some (.ref (hg_ex E 0)), some (.ref (hg_ad E 0 0)), some (.ref (hg_ad E 21 0)), some (.int (nI i))] [] (I', Lg', Rf', X') (hg_i (fun v _ => v = 1))) : hg_WP l E (d + 23) Y_L_law mc ms 344 [some (.ref (hg_ex E 0)), some (.ref (hg_ad E 0 0)), some (.ref (hg_ad E 21 0)), some (.int (nI i))] [] (I, Lg, Rf, X) (hg_i (fun v _ => v = 1)) := by
  have hX := hR0.cX
  refine hg_aload1 d_L_law_344 ?_
  refine hg_aload0 d_L_law_345 ?_
  refine hg_iload3 d_L_law_346 ?_
  refine hg_iconst (v := 1) d_L_law_347 (by decide) ?_
  refine hg_iadd d_L_law_348 ?_
  refine hg_eq1 (y := nI (i + 1)) (nI_add _ _) ?_
  refine hg_ialdT_n (j := (i + 1)) d_L_law_349 (fun s h => hx_scr h) (by omega) (by omega) ?_
  refine hg_aload0 d_L_law_350 ?_
  refine hg_iload3 d_L_law_351 ?_
  refine hg_iconst (v := 2) d_L_law_352 (by decide) ?_
  refine hg_iadd d_L_law_353 ?_
  refine hg_eq1 (y := nI (i + 2)) (nI_add _ _) ?_
  refine hg_ialdT_n (j := (i + 2)) d_L_law_354 (fun s h => hx_scr h) (by omega) (by omega) ?_
  refine hg_cVi d_L_law_355 l_L_32 rfl rfl (hX.lt (n := 1) ⟨by decide, by decide⟩ rfl (by omega)) rfl (Nat.le_of_ble_eq_true rfl) (m_D_swap hR0 hG) rfl ?_
  rintro _ _ ⟨rfl, I1, Lg1, Rf1, X1, rfl, hR1, kp1⟩
  have eT : gT (so_swap G (E.2.2.2.2.2.2 (i + 1)) (E.2.2.2.2.2.2 (i + 2))).2 = gT G := by unfold so_swap; (repeat' split) <;> rfl
  have hX1 : hg_XS (gT G) X1 := by have := hR1.cX; rwa [eT] at this
  have hRf1 : hg_SR (gT G) Rf1 := by have := hR1.cR; rwa [eT] at this
  have hM1 := hM0.kp kp1
  have hX := hR1.cX
  refine hg_aload2 d_L_law_358 ?_
  refine hg_aload0 d_L_law_359 ?_
  refine hg_iload3 d_L_law_360 ?_
  refine hg_iconst (v := 1) d_L_law_361 (by decide) ?_
  refine hg_iadd d_L_law_362 ?_
  refine hg_eq1 (y := nI (i + 1)) (nI_add _ _) ?_
  refine hg_ialdT_n (j := (i + 1)) d_L_law_363 (fun s h => hx_scr h) (by omega) (by omega) ?_
  refine hg_aload0 d_L_law_364 ?_
  refine hg_iload3 d_L_law_365 ?_
  refine hg_iconst (v := 2) d_L_law_366 (by decide) ?_
  refine hg_iadd d_L_law_367 ?_
  refine hg_eq1 (y := nI (i + 2)) (nI_add _ _) ?_
  refine hg_ialdT_n (j := (i + 2)) d_L_law_368 (fun s h => hx_scr h) (by omega) (by omega) ?_
  refine hg_cVi d_L_law_369 l_L_35 rfl rfl (hX.lt (n := 1) ⟨by decide, by decide⟩ rfl (by omega)) rfl (Nat.le_of_ble_eq_true rfl) (m_M_swap hX1 hRf1 hM1 hG) rfl ?_
  rintro _ _ ⟨rfl, I2, Lg2, rfl, hM2, lo2, loL2⟩
  refine hg_icmp_eq (tgt := 1231) d_L_law_372 (by decide) (fun h_1 => ?_) (fun h_1 => absurd (rfl) h_1)
  exact K _ I2 Lg2 Rf1 X1 (hR1.lo lo2 loL2) hM2 (go_swap hG)
theorem m_L_c5 {i : Nat} (hR0 : hs_CR G I Lg Rf X) (hM0 : hs_MR G I Lg) (hG : hs_gok G) (hi : i + 6 ≤ E.2.2.2.2.2.1) (hN : E.2.2.2.2.2.1 ≤ 3072) (K : ∀ (G' : hs_G) (I' : Nat → Nat → Nat → Int32) (Lg' : Nat → Nat → Nat → Int64) (Rf' : Nat → Nat → Nat → Option (Nat × Nat)) (X' : Nat × (Nat → Nat) × (Nat → Nat → Nat)), hs_CR G' I' Lg' Rf' X' → hs_MR G' I' Lg' → hs_gok G' → hg_WP l E (d + 23) Y_L_law mc ms 1231 [some (.ref (hg_ex E 0)), some (.ref (hg_ad E 0 0)), some (.ref (hg_ad E 21 0)), some (.int (nI i))] [] (I', Lg', Rf', X') (hg_i (fun v _ => v = 1))) : hg_WP l E (d + 23) Y_L_law mc ms 377 [some (.ref (hg_ex E 0)), some (.ref (hg_ad E 0 0)), some (.ref (hg_ad E 21 0)), some (.int (nI i))] [] (I, Lg, Rf, X) (hg_i (fun v _ => v = 1)) := by
  have hX := hR0.cX
  refine hg_aload1 d_L_law_377 ?_
  refine hg_aload0 d_L_law_378 ?_
  refine hg_iload3 d_L_law_379 ?_
  refine hg_iconst (v := 1) d_L_law_380 (by decide) ?_
  refine hg_iadd d_L_law_381 ?_
  refine hg_eq1 (y := nI (i + 1)) (nI_add _ _) ?_
  refine hg_ialdT_n (j := (i + 1)) d_L_law_382 (fun s h => hx_scr h) (by omega) (by omega) ?_
  refine hg_aload0 d_L_law_383 ?_
  refine hg_iload3 d_L_law_384 ?_
  refine hg_iconst (v := 2) d_L_law_385 (by decide) ?_
  refine hg_iadd d_L_law_386 ?_
  refine hg_eq1 (y := nI (i + 2)) (nI_add _ _) ?_
  refine hg_ialdT_n (j := (i + 2)) d_L_law_387 (fun s h => hx_scr h) (by omega) (by omega) ?_
  refine hg_aload0 d_L_law_388 ?_
  refine hg_iload3 d_L_law_389 ?_
  refine hg_iconst (v := 3) d_L_law_390 (by decide) ?_
  refine hg_iadd d_L_law_391 ?_
  refine hg_eq1 (y := nI (i + 3)) (nI_add _ _) ?_
  refine hg_ialdT_n (j := (i + 3)) d_L_law_392 (fun s h => hx_scr h) (by omega) (by omega) ?_
  refine hg_cVi d_L_law_393 l_L_36 rfl rfl (hX.lt (n := 1) ⟨by decide, by decide⟩ rfl (by omega)) rfl (Nat.le_of_ble_eq_true rfl) (m_D_row hR0 hG) rfl ?_
  rintro _ _ ⟨rfl, I1, Lg1, Rf1, X1, rfl, hR1, kp1⟩
  have eT : gT (so_row G (E.2.2.2.2.2.2 (i + 1)) (E.2.2.2.2.2.2 (i + 2)) (E.2.2.2.2.2.2 (i + 3))).2 = gT G := by unfold so_row; (repeat' split) <;> rfl
  have hX1 : hg_XS (gT G) X1 := by have := hR1.cX; rwa [eT] at this
  have hRf1 : hg_SR (gT G) Rf1 := by have := hR1.cR; rwa [eT] at this
  have hM1 := hM0.kp kp1
  have hX := hR1.cX
  refine hg_aload2 d_L_law_396 ?_
  refine hg_aload0 d_L_law_397 ?_
  refine hg_iload3 d_L_law_398 ?_
  refine hg_iconst (v := 1) d_L_law_399 (by decide) ?_
  refine hg_iadd d_L_law_400 ?_
  refine hg_eq1 (y := nI (i + 1)) (nI_add _ _) ?_
  refine hg_ialdT_n (j := (i + 1)) d_L_law_401 (fun s h => hx_scr h) (by omega) (by omega) ?_
  refine hg_aload0 d_L_law_402 ?_
  refine hg_iload3 d_L_law_403 ?_
  refine hg_iconst (v := 2) d_L_law_404 (by decide) ?_
  refine hg_iadd d_L_law_405 ?_
  refine hg_eq1 (y := nI (i + 2)) (nI_add _ _) ?_
  refine hg_ialdT_n (j := (i + 2)) d_L_law_406 (fun s h => hx_scr h) (by omega) (by omega) ?_
  refine hg_aload0 d_L_law_407 ?_
  refine hg_iload3 d_L_law_408 ?_
  refine hg_iconst (v := 3) d_L_law_409 (by decide) ?_
  refine hg_iadd d_L_law_410 ?_
  refine hg_eq1 (y := nI (i + 3)) (nI_add _ _) ?_
  refine hg_ialdT_n (j := (i + 3)) d_L_law_411 (fun s h => hx_scr h) (by omega) (by omega) ?_
  refine hg_cVi d_L_law_412 l_L_39 rfl rfl (hX.lt (n := 1) ⟨by decide, by decide⟩ rfl (by omega)) rfl (Nat.le_of_ble_eq_true rfl) (m_M_row hX1 hRf1 hM1 hG) rfl ?_
  rintro _ _ ⟨rfl, I2, Lg2, rfl, hM2, lo2, loL2⟩
  refine hg_icmp_eq (tgt := 1231) d_L_law_415 (by decide) (fun h_1 => ?_) (fun h_1 => absurd (rfl) h_1)
  exact K _ I2 Lg2 Rf1 X1 (hR1.lo lo2 loL2) hM2 (go_row hG)
theorem m_L_c6 {i : Nat} (hR0 : hs_CR G I Lg Rf X) (hM0 : hs_MR G I Lg) (hG : hs_gok G) (hi : i + 6 ≤ E.2.2.2.2.2.1) (hN : E.2.2.2.2.2.1 ≤ 3072) (K : ∀ (G' : hs_G) (I' : Nat → Nat → Nat → Int32) (Lg' : Nat → Nat → Nat → Int64) (Rf' : Nat → Nat → Nat → Option (Nat × Nat)) (X' : Nat × (Nat → Nat) × (Nat → Nat → Nat)), hs_CR G' I' Lg' Rf' X' → hs_MR G' I' Lg' → hs_gok G' → hg_WP l E (d + 23) Y_L_law mc ms 1231 [some (.ref (hg_ex E 0)), some (.ref (hg_ad E 0 0)), some (.ref (hg_ad E 21 0)), some (.int (nI i))] [] (I', Lg', Rf', X') (hg_i (fun v _ => v = 1))) : hg_WP l E (d + 23) Y_L_law mc ms 420 [some (.ref (hg_ex E 0)), some (.ref (hg_ad E 0 0)), some (.ref (hg_ad E 21 0)), some (.int (nI i))] [] (I, Lg, Rf, X) (hg_i (fun v _ => v = 1)) := by
  have hX := hR0.cX
  refine hg_aload1 d_L_law_420 ?_
  refine hg_aload0 d_L_law_421 ?_
  refine hg_iload3 d_L_law_422 ?_
  refine hg_iconst (v := 1) d_L_law_423 (by decide) ?_
  refine hg_iadd d_L_law_424 ?_
  refine hg_eq1 (y := nI (i + 1)) (nI_add _ _) ?_
  refine hg_ialdT_n (j := (i + 1)) d_L_law_425 (fun s h => hx_scr h) (by omega) (by omega) ?_
  refine hg_cVi d_L_law_426 l_L_40 rfl rfl (hX.lt (n := 1) ⟨by decide, by decide⟩ rfl (by omega)) rfl (Nat.le_of_ble_eq_true rfl) (m_D_feed hR0 hG) rfl ?_
  rintro _ _ ⟨rfl, I1, Lg1, Rf1, X1, rfl, hR1, kp1⟩
  have eT : gT (so_feed G (E.2.2.2.2.2.2 (i + 1))).2 = gT G := by unfold so_feed; (repeat' split) <;> rfl
  have hX1 : hg_XS (gT G) X1 := by have := hR1.cX; rwa [eT] at this
  have hRf1 : hg_SR (gT G) Rf1 := by have := hR1.cR; rwa [eT] at this
  have hM1 := hM0.kp kp1
  have hX := hR1.cX
  refine hg_aload2 d_L_law_429 ?_
  refine hg_aload0 d_L_law_430 ?_
  refine hg_iload3 d_L_law_431 ?_
  refine hg_iconst (v := 1) d_L_law_432 (by decide) ?_
  refine hg_iadd d_L_law_433 ?_
  refine hg_eq1 (y := nI (i + 1)) (nI_add _ _) ?_
  refine hg_ialdT_n (j := (i + 1)) d_L_law_434 (fun s h => hx_scr h) (by omega) (by omega) ?_
  refine hg_cVi d_L_law_435 l_L_44 rfl rfl (hX.lt (n := 1) ⟨by decide, by decide⟩ rfl (by omega)) rfl (Nat.le_of_ble_eq_true rfl) (m_M_feed hX1 hRf1 hM1 hG) rfl ?_
  rintro _ _ ⟨rfl, I2, Lg2, rfl, hM2, lo2, loL2⟩
  refine hg_icmp_eq (tgt := 1231) d_L_law_438 (by decide) (fun h_1 => ?_) (fun h_1 => absurd (rfl) h_1)
  exact K _ I2 Lg2 Rf1 X1 (hR1.lo lo2 loL2) hM2 (go_feed hG)
theorem m_L_c7 {i : Nat} (hR0 : hs_CR G I Lg Rf X) (hM0 : hs_MR G I Lg) (hG : hs_gok G) (hi : i + 6 ≤ E.2.2.2.2.2.1) (hN : E.2.2.2.2.2.1 ≤ 3072) (hmc : 2 ≤ mc) (hms : 200 ≤ ms) (K : ∀ (G' : hs_G) (I' : Nat → Nat → Nat → Int32) (Lg' : Nat → Nat → Nat → Int64) (Rf' : Nat → Nat → Nat → Option (Nat × Nat)) (X' : Nat × (Nat → Nat) × (Nat → Nat → Nat)), hs_CR G' I' Lg' Rf' X' → hs_MR G' I' Lg' → hs_gok G' → hg_WP l E (d + 23) Y_L_law (mc - 2) (ms - 200) 1231 [some (.ref (hg_ex E 0)), some (.ref (hg_ad E 0 0)), some (.ref (hg_ad E 21 0)), some (.int (nI i))] [] (I', Lg', Rf', X') (hg_i (fun v _ => v = 1))) : hg_WP l E (d + 23) Y_L_law mc ms 443 [some (.ref (hg_ex E 0)), some (.ref (hg_ad E 0 0)), some (.ref (hg_ad E 21 0)), some (.int (nI i))] [] (I, Lg, Rf, X) (hg_i (fun v _ => v = 1)) := by
  have hX := hR0.cX
  refine hg_aload1 d_L_law_443 ?_
  refine hg_callV d_L_law_444 l_L_45 rfl rfl (hX.lt (n := 1) ⟨by decide, by decide⟩ rfl (by omega)) rfl (Nat.le_of_ble_eq_true rfl) ⟨hmc, hms⟩ (m_D_town hR0 hG) rfl ?_
  rintro _ _ ⟨_, rfl, rfl, I1, Lg1, Rf1, X1, rfl, hR1, kp1⟩
  show hg_WP l E (d + 23) Y_L_law (mc - 2) (ms - 200) 447 [some (.ref (hg_ex E 0)), some (.ref (hg_ad E 0 0)), some (.ref (hg_ad E 21 0)), some (.int (nI i))] [.int (so_town G).1] (I1, Lg1, Rf1, X1) (hg_i (fun v _ => v = 1))
  have hX1 := hR1.cX
  have hRf1 := hR1.cR
  have hM1 := hM0.kp kp1
  have hX := hR1.cX
  refine hg_aload2 d_L_law_447 ?_
  refine hg_cVi d_L_law_448 l_L_49 rfl rfl (hX.lt (n := 1) ⟨by decide, by decide⟩ rfl (by omega)) rfl (Nat.le_of_ble_eq_true rfl) (m_M_town hX1 hRf1 hM1 hG) rfl ?_
  rintro _ _ ⟨rfl, I2, Lg2, rfl, hM2, lo2, loL2⟩
  refine hg_icmp_eq (tgt := 1231) d_L_law_451 (by decide) (fun h_1 => ?_) (fun h_1 => absurd (rfl) h_1)
  exact K _ I2 Lg2 Rf1 X1 (hR1.lo lo2 loL2) hM2 (go_town hG)
theorem m_L_c8 {i : Nat} (hR0 : hs_CR G I Lg Rf X) (hM0 : hs_MR G I Lg) (hG : hs_gok G) (hi : i + 6 ≤ E.2.2.2.2.2.1) (hN : E.2.2.2.2.2.1 ≤ 3072) (K : ∀ (G' : hs_G) (I' : Nat → Nat → Nat → Int32) (Lg' : Nat → Nat → Nat → Int64) (Rf' : Nat → Nat → Nat → Option (Nat × Nat)) (X' : Nat × (Nat → Nat) × (Nat → Nat → Nat)), hs_CR G' I' Lg' Rf' X' → hs_MR G' I' Lg' → hs_gok G' → hg_WP l E (d + 23) Y_L_law mc ms 1231 [some (.ref (hg_ex E 0)), some (.ref (hg_ad E 0 0)), some (.ref (hg_ad E 21 0)), some (.int (nI i))] [] (I', Lg', Rf', X') (hg_i (fun v _ => v = 1))) : hg_WP l E (d + 23) Y_L_law mc ms 456 [some (.ref (hg_ex E 0)), some (.ref (hg_ad E 0 0)), some (.ref (hg_ad E 21 0)), some (.int (nI i))] [] (I, Lg, Rf, X) (hg_i (fun v _ => v = 1)) := by
  have hX := hR0.cX
  refine hg_aload1 d_L_law_456 ?_
  refine hg_aload0 d_L_law_457 ?_
  refine hg_iload3 d_L_law_458 ?_
  refine hg_iconst (v := 1) d_L_law_459 (by decide) ?_
  refine hg_iadd d_L_law_460 ?_
  refine hg_eq1 (y := nI (i + 1)) (nI_add _ _) ?_
  refine hg_ialdT_n (j := (i + 1)) d_L_law_461 (fun s h => hx_scr h) (by omega) (by omega) ?_
  refine hg_cVi d_L_law_462 l_L_50 rfl rfl (hX.lt (n := 1) ⟨by decide, by decide⟩ rfl (by omega)) rfl (Nat.le_of_ble_eq_true rfl) (m_D_told (hR0.q hG) hG.2.1) rfl ?_
  rintro _ _ hA
  obtain ⟨rfl, I1, Lg1, Rf1, X1, rfl, hR1, kp1⟩ := hq_A.cp hR0 hG hA
  have hX1 := hR1.cX
  have hRf1 := hR1.cR
  have hM1 := hM0.kp kp1
  have hX := hR1.cX
  refine hg_aload2 d_L_law_465 ?_
  refine hg_aload0 d_L_law_466 ?_
  refine hg_iload3 d_L_law_467 ?_
  refine hg_iconst (v := 1) d_L_law_468 (by decide) ?_
  refine hg_iadd d_L_law_469 ?_
  refine hg_eq1 (y := nI (i + 1)) (nI_add _ _) ?_
  refine hg_ialdT_n (j := (i + 1)) d_L_law_470 (fun s h => hx_scr h) (by omega) (by omega) ?_
  refine hg_cVi d_L_law_471 l_L_53 rfl rfl (hX.lt (n := 1) ⟨by decide, by decide⟩ rfl (by omega)) rfl (Nat.le_of_ble_eq_true rfl) (m_M_told hX1 hRf1 hM1 hG) rfl ?_
  rintro _ _ ⟨rfl, I2, Lg2, rfl, hM2, lo2, loL2⟩
  refine hg_icmp_eq (tgt := 1231) d_L_law_474 (by decide) (fun h_1 => ?_) (fun h_1 => absurd (rfl) h_1)
  exact K _ I2 Lg2 Rf1 X1 (hR1.lo lo2 loL2) hM2 hG
theorem m_L_c9 {i : Nat} (hR0 : hs_CR G I Lg Rf X) (hM0 : hs_MR G I Lg) (hG : hs_gok G) (hi : i + 6 ≤ E.2.2.2.2.2.1) (hN : E.2.2.2.2.2.1 ≤ 3072) (K : ∀ (G' : hs_G) (I' : Nat → Nat → Nat → Int32) (Lg' : Nat → Nat → Nat → Int64) (Rf' : Nat → Nat → Nat → Option (Nat × Nat)) (X' : Nat × (Nat → Nat) × (Nat → Nat → Nat)), hs_CR G' I' Lg' Rf' X' → hs_MR G' I' Lg' → hs_gok G' → hg_WP l E (d + 23) Y_L_law mc ms 1231 [some (.ref (hg_ex E 0)), some (.ref (hg_ad E 0 0)), some (.ref (hg_ad E 21 0)), some (.int (nI i))] [] (I', Lg', Rf', X') (hg_i (fun v _ => v = 1))) : hg_WP l E (d + 23) Y_L_law mc ms 479 [some (.ref (hg_ex E 0)), some (.ref (hg_ad E 0 0)), some (.ref (hg_ad E 21 0)), some (.int (nI i))] [] (I, Lg, Rf, X) (hg_i (fun v _ => v = 1)) := by
  have hX := hR0.cX
  refine hg_aload1 d_L_law_479 ?_
  refine hg_aload0 d_L_law_480 ?_
  refine hg_iload3 d_L_law_481 ?_
  refine hg_iconst (v := 1) d_L_law_482 (by decide) ?_
  refine hg_iadd d_L_law_483 ?_
  refine hg_eq1 (y := nI (i + 1)) (nI_add _ _) ?_
  refine hg_ialdT_n (j := (i + 1)) d_L_law_484 (fun s h => hx_scr h) (by omega) (by omega) ?_
  refine hg_cVi d_L_law_485 l_L_54 rfl rfl (hX.lt (n := 1) ⟨by decide, by decide⟩ rfl (by omega)) rfl (Nat.le_of_ble_eq_true rfl) (m_D_pass hR0 hG) rfl ?_
  rintro _ _ ⟨rfl, I1, Lg1, Rf1, X1, rfl, hR1, kp1⟩
  have eT : gT (so_pass G (E.2.2.2.2.2.2 (i + 1))).2 = gT G := by unfold so_pass; (repeat' split) <;> rfl
  have hX1 : hg_XS (gT G) X1 := by have := hR1.cX; rwa [eT] at this
  have hRf1 : hg_SR (gT G) Rf1 := by have := hR1.cR; rwa [eT] at this
  have hM1 := hM0.kp kp1
  have hX := hR1.cX
  refine hg_aload2 d_L_law_488 ?_
  refine hg_aload0 d_L_law_489 ?_
  refine hg_iload3 d_L_law_490 ?_
  refine hg_iconst (v := 1) d_L_law_491 (by decide) ?_
  refine hg_iadd d_L_law_492 ?_
  refine hg_eq1 (y := nI (i + 1)) (nI_add _ _) ?_
  refine hg_ialdT_n (j := (i + 1)) d_L_law_493 (fun s h => hx_scr h) (by omega) (by omega) ?_
  refine hg_cVi d_L_law_494 l_L_57 rfl rfl (hX.lt (n := 1) ⟨by decide, by decide⟩ rfl (by omega)) rfl (Nat.le_of_ble_eq_true rfl) (m_M_pass hX1 hRf1 hM1 hG) rfl ?_
  rintro _ _ ⟨rfl, I2, Lg2, rfl, hM2, lo2, loL2⟩
  refine hg_icmp_eq (tgt := 1231) d_L_law_497 (by decide) (fun h_1 => ?_) (fun h_1 => absurd (rfl) h_1)
  exact K _ I2 Lg2 Rf1 X1 (hR1.lo lo2 loL2) hM2 (go_pass hG)
theorem m_L_c10 {i : Nat} (hR0 : hs_CR G I Lg Rf X) (hM0 : hs_MR G I Lg) (hG : hs_gok G) (hi : i + 6 ≤ E.2.2.2.2.2.1) (hN : E.2.2.2.2.2.1 ≤ 3072) (K : ∀ (G' : hs_G) (I' : Nat → Nat → Nat → Int32) (Lg' : Nat → Nat → Nat → Int64) (Rf' : Nat → Nat → Nat → Option (Nat × Nat)) (X' : Nat × (Nat → Nat) × (Nat → Nat → Nat)), hs_CR G' I' Lg' Rf' X' → hs_MR G' I' Lg' → hs_gok G' → hg_WP l E (d + 23) Y_L_law mc ms 1231 [some (.ref (hg_ex E 0)), some (.ref (hg_ad E 0 0)), some (.ref (hg_ad E 21 0)), some (.int (nI i))] [] (I', Lg', Rf', X') (hg_i (fun v _ => v = 1))) : hg_WP l E (d + 23) Y_L_law mc ms 502 [some (.ref (hg_ex E 0)), some (.ref (hg_ad E 0 0)), some (.ref (hg_ad E 21 0)), some (.int (nI i))] [] (I, Lg, Rf, X) (hg_i (fun v _ => v = 1)) := by
  have hX := hR0.cX
  refine hg_aload1 d_L_law_502 ?_
  refine hg_aload0 d_L_law_503 ?_
  refine hg_iload3 d_L_law_504 ?_
  refine hg_iconst (v := 1) d_L_law_505 (by decide) ?_
  refine hg_iadd d_L_law_506 ?_
  refine hg_eq1 (y := nI (i + 1)) (nI_add _ _) ?_
  refine hg_ialdT_n (j := (i + 1)) d_L_law_507 (fun s h => hx_scr h) (by omega) (by omega) ?_
  refine hg_aload0 d_L_law_508 ?_
  refine hg_iload3 d_L_law_509 ?_
  refine hg_iconst (v := 2) d_L_law_510 (by decide) ?_
  refine hg_iadd d_L_law_511 ?_
  refine hg_eq1 (y := nI (i + 2)) (nI_add _ _) ?_
  refine hg_ialdT_n (j := (i + 2)) d_L_law_512 (fun s h => hx_scr h) (by omega) (by omega) ?_
  refine hg_cVi d_L_law_513 l_L_58 rfl rfl (hX.lt (n := 1) ⟨by decide, by decide⟩ rfl (by omega)) rfl (Nat.le_of_ble_eq_true rfl) (m_D_on (hR0.q hG) hG.2.1) rfl ?_
  rintro _ _ hA
  obtain ⟨rfl, I1, Lg1, Rf1, X1, rfl, hR1, kp1⟩ := hq_A.cp hR0 hG hA
  have hX1 := hR1.cX
  have hRf1 := hR1.cR
  have hM1 := hM0.kp kp1
  have hX := hR1.cX
  refine hg_aload2 d_L_law_516 ?_
  refine hg_aload0 d_L_law_517 ?_
  refine hg_iload3 d_L_law_518 ?_
  refine hg_iconst (v := 1) d_L_law_519 (by decide) ?_
  refine hg_iadd d_L_law_520 ?_
  refine hg_eq1 (y := nI (i + 1)) (nI_add _ _) ?_
  refine hg_ialdT_n (j := (i + 1)) d_L_law_521 (fun s h => hx_scr h) (by omega) (by omega) ?_
  refine hg_aload0 d_L_law_522 ?_
  refine hg_iload3 d_L_law_523 ?_
  refine hg_iconst (v := 2) d_L_law_524 (by decide) ?_
  refine hg_iadd d_L_law_525 ?_
  refine hg_eq1 (y := nI (i + 2)) (nI_add _ _) ?_
  refine hg_ialdT_n (j := (i + 2)) d_L_law_526 (fun s h => hx_scr h) (by omega) (by omega) ?_
  refine hg_cVi d_L_law_527 l_L_61 rfl rfl (hX.lt (n := 1) ⟨by decide, by decide⟩ rfl (by omega)) rfl (Nat.le_of_ble_eq_true rfl) (m_M_on hX1 hRf1 hM1 hG) rfl ?_
  rintro _ _ ⟨rfl, I2, Lg2, rfl, hM2, lo2, loL2⟩
  refine hg_icmp_eq (tgt := 1231) d_L_law_530 (by decide) (fun h_1 => ?_) (fun h_1 => absurd (rfl) h_1)
  exact K _ I2 Lg2 Rf1 X1 (hR1.lo lo2 loL2) hM2 hG
theorem m_L_c11 {i : Nat} (hR0 : hs_CR G I Lg Rf X) (hM0 : hs_MR G I Lg) (hG : hs_gok G) (hi : i + 6 ≤ E.2.2.2.2.2.1) (hN : E.2.2.2.2.2.1 ≤ 3072) (K : ∀ (G' : hs_G) (I' : Nat → Nat → Nat → Int32) (Lg' : Nat → Nat → Nat → Int64) (Rf' : Nat → Nat → Nat → Option (Nat × Nat)) (X' : Nat × (Nat → Nat) × (Nat → Nat → Nat)), hs_CR G' I' Lg' Rf' X' → hs_MR G' I' Lg' → hs_gok G' → hg_WP l E (d + 23) Y_L_law mc ms 1231 [some (.ref (hg_ex E 0)), some (.ref (hg_ad E 0 0)), some (.ref (hg_ad E 21 0)), some (.int (nI i))] [] (I', Lg', Rf', X') (hg_i (fun v _ => v = 1))) : hg_WP l E (d + 23) Y_L_law mc ms 535 [some (.ref (hg_ex E 0)), some (.ref (hg_ad E 0 0)), some (.ref (hg_ad E 21 0)), some (.int (nI i))] [] (I, Lg, Rf, X) (hg_i (fun v _ => v = 1)) := by
  have hX := hR0.cX
  refine hg_aload1 d_L_law_535 ?_
  refine hg_aload0 d_L_law_536 ?_
  refine hg_iload3 d_L_law_537 ?_
  refine hg_iconst (v := 1) d_L_law_538 (by decide) ?_
  refine hg_iadd d_L_law_539 ?_
  refine hg_eq1 (y := nI (i + 1)) (nI_add _ _) ?_
  refine hg_ialdT_n (j := (i + 1)) d_L_law_540 (fun s h => hx_scr h) (by omega) (by omega) ?_
  refine hg_cVi d_L_law_541 l_L_62 rfl rfl (hX.lt (n := 1) ⟨by decide, by decide⟩ rfl (by omega)) rfl (Nat.le_of_ble_eq_true rfl) (m_D_doors (hR0.q hG) hG.2.1) rfl ?_
  rintro _ _ hA
  obtain ⟨rfl, I1, Lg1, Rf1, X1, rfl, hR1, kp1⟩ := hq_A.cp hR0 hG hA
  have hX1 := hR1.cX
  have hRf1 := hR1.cR
  have hM1 := hM0.kp kp1
  have hX := hR1.cX
  refine hg_aload2 d_L_law_544 ?_
  refine hg_aload0 d_L_law_545 ?_
  refine hg_iload3 d_L_law_546 ?_
  refine hg_iconst (v := 1) d_L_law_547 (by decide) ?_
  refine hg_iadd d_L_law_548 ?_
  refine hg_eq1 (y := nI (i + 1)) (nI_add _ _) ?_
  refine hg_ialdT_n (j := (i + 1)) d_L_law_549 (fun s h => hx_scr h) (by omega) (by omega) ?_
  refine hg_cVi d_L_law_550 l_L_65 rfl rfl (hX.lt (n := 1) ⟨by decide, by decide⟩ rfl (by omega)) rfl (Nat.le_of_ble_eq_true rfl) (m_M_doors hX1 hRf1 hM1 hG) rfl ?_
  rintro _ _ ⟨rfl, I2, Lg2, rfl, hM2, lo2, loL2⟩
  refine hg_icmp_eq (tgt := 1231) d_L_law_553 (by decide) (fun h_1 => ?_) (fun h_1 => absurd (rfl) h_1)
  exact K _ I2 Lg2 Rf1 X1 (hR1.lo lo2 loL2) hM2 hG
theorem m_L_c12 {i : Nat} (hR0 : hs_CR G I Lg Rf X) (hM0 : hs_MR G I Lg) (hG : hs_gok G) (hi : i + 6 ≤ E.2.2.2.2.2.1) (hN : E.2.2.2.2.2.1 ≤ 3072) (K : ∀ (G' : hs_G) (I' : Nat → Nat → Nat → Int32) (Lg' : Nat → Nat → Nat → Int64) (Rf' : Nat → Nat → Nat → Option (Nat × Nat)) (X' : Nat × (Nat → Nat) × (Nat → Nat → Nat)), hs_CR G' I' Lg' Rf' X' → hs_MR G' I' Lg' → hs_gok G' → hg_WP l E (d + 23) Y_L_law mc ms 1231 [some (.ref (hg_ex E 0)), some (.ref (hg_ad E 0 0)), some (.ref (hg_ad E 21 0)), some (.int (nI i))] [] (I', Lg', Rf', X') (hg_i (fun v _ => v = 1))) : hg_WP l E (d + 23) Y_L_law mc ms 558 [some (.ref (hg_ex E 0)), some (.ref (hg_ad E 0 0)), some (.ref (hg_ad E 21 0)), some (.int (nI i))] [] (I, Lg, Rf, X) (hg_i (fun v _ => v = 1)) := by
  have hX := hR0.cX
  refine hg_aload1 d_L_law_558 ?_
  refine hg_aload0 d_L_law_559 ?_
  refine hg_iload3 d_L_law_560 ?_
  refine hg_iconst (v := 1) d_L_law_561 (by decide) ?_
  refine hg_iadd d_L_law_562 ?_
  refine hg_eq1 (y := nI (i + 1)) (nI_add _ _) ?_
  refine hg_ialdT_n (j := (i + 1)) d_L_law_563 (fun s h => hx_scr h) (by omega) (by omega) ?_
  refine hg_aload0 d_L_law_564 ?_
  refine hg_iload3 d_L_law_565 ?_
  refine hg_iconst (v := 2) d_L_law_566 (by decide) ?_
  refine hg_iadd d_L_law_567 ?_
  refine hg_eq1 (y := nI (i + 2)) (nI_add _ _) ?_
  refine hg_ialdT_n (j := (i + 2)) d_L_law_568 (fun s h => hx_scr h) (by omega) (by omega) ?_
  refine hg_cVi d_L_law_569 l_L_66 rfl rfl (hX.lt (n := 1) ⟨by decide, by decide⟩ rfl (by omega)) rfl (Nat.le_of_ble_eq_true rfl) (m_D_feign (hR0.q hG) hG.2.1) rfl ?_
  rintro _ _ hA
  obtain ⟨rfl, I1, Lg1, Rf1, X1, rfl, hR1, kp1⟩ := hq_A.cp hR0 hG hA
  have hX1 := hR1.cX
  have hRf1 := hR1.cR
  have hM1 := hM0.kp kp1
  have hX := hR1.cX
  refine hg_aload2 d_L_law_572 ?_
  refine hg_aload0 d_L_law_573 ?_
  refine hg_iload3 d_L_law_574 ?_
  refine hg_iconst (v := 1) d_L_law_575 (by decide) ?_
  refine hg_iadd d_L_law_576 ?_
  refine hg_eq1 (y := nI (i + 1)) (nI_add _ _) ?_
  refine hg_ialdT_n (j := (i + 1)) d_L_law_577 (fun s h => hx_scr h) (by omega) (by omega) ?_
  refine hg_aload0 d_L_law_578 ?_
  refine hg_iload3 d_L_law_579 ?_
  refine hg_iconst (v := 2) d_L_law_580 (by decide) ?_
  refine hg_iadd d_L_law_581 ?_
  refine hg_eq1 (y := nI (i + 2)) (nI_add _ _) ?_
  refine hg_ialdT_n (j := (i + 2)) d_L_law_582 (fun s h => hx_scr h) (by omega) (by omega) ?_
  refine hg_cVi d_L_law_583 l_L_69 rfl rfl (hX.lt (n := 1) ⟨by decide, by decide⟩ rfl (by omega)) rfl (Nat.le_of_ble_eq_true rfl) (m_M_feign hX1 hRf1 hM1 hG) rfl ?_
  rintro _ _ ⟨rfl, I2, Lg2, rfl, hM2, lo2, loL2⟩
  refine hg_icmp_eq (tgt := 1231) d_L_law_586 (by decide) (fun h_1 => ?_) (fun h_1 => absurd (rfl) h_1)
  exact K _ I2 Lg2 Rf1 X1 (hR1.lo lo2 loL2) hM2 hG
theorem m_L_c13 {i : Nat} (hR0 : hs_CR G I Lg Rf X) (hM0 : hs_MR G I Lg) (hG : hs_gok G) (hi : i + 6 ≤ E.2.2.2.2.2.1) (hN : E.2.2.2.2.2.1 ≤ 3072) (K : ∀ (G' : hs_G) (I' : Nat → Nat → Nat → Int32) (Lg' : Nat → Nat → Nat → Int64) (Rf' : Nat → Nat → Nat → Option (Nat × Nat)) (X' : Nat × (Nat → Nat) × (Nat → Nat → Nat)), hs_CR G' I' Lg' Rf' X' → hs_MR G' I' Lg' → hs_gok G' → hg_WP l E (d + 23) Y_L_law mc ms 1231 [some (.ref (hg_ex E 0)), some (.ref (hg_ad E 0 0)), some (.ref (hg_ad E 21 0)), some (.int (nI i))] [] (I', Lg', Rf', X') (hg_i (fun v _ => v = 1))) : hg_WP l E (d + 23) Y_L_law mc ms 591 [some (.ref (hg_ex E 0)), some (.ref (hg_ad E 0 0)), some (.ref (hg_ad E 21 0)), some (.int (nI i))] [] (I, Lg, Rf, X) (hg_i (fun v _ => v = 1)) := by
  have hX := hR0.cX
  refine hg_aload1 d_L_law_591 ?_
  refine hg_aload0 d_L_law_592 ?_
  refine hg_iload3 d_L_law_593 ?_
  refine hg_iconst (v := 1) d_L_law_594 (by decide) ?_
  refine hg_iadd d_L_law_595 ?_
  refine hg_eq1 (y := nI (i + 1)) (nI_add _ _) ?_
  refine hg_ialdT_n (j := (i + 1)) d_L_law_596 (fun s h => hx_scr h) (by omega) (by omega) ?_
  refine hg_aload0 d_L_law_597 ?_
  refine hg_iload3 d_L_law_598 ?_
  refine hg_iconst (v := 2) d_L_law_599 (by decide) ?_
  refine hg_iadd d_L_law_600 ?_
  refine hg_eq1 (y := nI (i + 2)) (nI_add _ _) ?_
  refine hg_ialdT_n (j := (i + 2)) d_L_law_601 (fun s h => hx_scr h) (by omega) (by omega) ?_
  refine hg_cVi d_L_law_602 l_L_70 rfl rfl (hX.lt (n := 1) ⟨by decide, by decide⟩ rfl (by omega)) rfl (Nat.le_of_ble_eq_true rfl) (m_D_see hR0 hG) rfl ?_
  rintro _ _ ⟨rfl, I1, Lg1, Rf1, X1, rfl, hR1, kp1⟩
  have eT : gT (so_see G (E.2.2.2.2.2.2 (i + 1)) (E.2.2.2.2.2.2 (i + 2))).2 = gT G := by unfold so_see so_lemp so_ladd; (repeat' split) <;> rfl
  have hX1 : hg_XS (gT G) X1 := by have := hR1.cX; rwa [eT] at this
  have hRf1 : hg_SR (gT G) Rf1 := by have := hR1.cR; rwa [eT] at this
  have hM1 := hM0.kp kp1
  have hX := hR1.cX
  refine hg_aload2 d_L_law_605 ?_
  refine hg_aload0 d_L_law_606 ?_
  refine hg_iload3 d_L_law_607 ?_
  refine hg_iconst (v := 1) d_L_law_608 (by decide) ?_
  refine hg_iadd d_L_law_609 ?_
  refine hg_eq1 (y := nI (i + 1)) (nI_add _ _) ?_
  refine hg_ialdT_n (j := (i + 1)) d_L_law_610 (fun s h => hx_scr h) (by omega) (by omega) ?_
  refine hg_aload0 d_L_law_611 ?_
  refine hg_iload3 d_L_law_612 ?_
  refine hg_iconst (v := 2) d_L_law_613 (by decide) ?_
  refine hg_iadd d_L_law_614 ?_
  refine hg_eq1 (y := nI (i + 2)) (nI_add _ _) ?_
  refine hg_ialdT_n (j := (i + 2)) d_L_law_615 (fun s h => hx_scr h) (by omega) (by omega) ?_
  refine hg_cVi d_L_law_616 l_L_73 rfl rfl (hX.lt (n := 1) ⟨by decide, by decide⟩ rfl (by omega)) rfl (Nat.le_of_ble_eq_true rfl) (m_M_see hX1 hRf1 hM1 hG) rfl ?_
  rintro _ _ ⟨rfl, I2, Lg2, rfl, hM2, lo2, loL2⟩
  refine hg_icmp_eq (tgt := 1231) d_L_law_619 (by decide) (fun h_1 => ?_) (fun h_1 => absurd (rfl) h_1)
  exact K _ I2 Lg2 Rf1 X1 (hR1.lo lo2 loL2) hM2 (go_see hG)
theorem m_L_c14 {i : Nat} (hR0 : hs_CR G I Lg Rf X) (hM0 : hs_MR G I Lg) (hG : hs_gok G) (hi : i + 6 ≤ E.2.2.2.2.2.1) (hN : E.2.2.2.2.2.1 ≤ 3072) (K : ∀ (G' : hs_G) (I' : Nat → Nat → Nat → Int32) (Lg' : Nat → Nat → Nat → Int64) (Rf' : Nat → Nat → Nat → Option (Nat × Nat)) (X' : Nat × (Nat → Nat) × (Nat → Nat → Nat)), hs_CR G' I' Lg' Rf' X' → hs_MR G' I' Lg' → hs_gok G' → hg_WP l E (d + 23) Y_L_law mc ms 1231 [some (.ref (hg_ex E 0)), some (.ref (hg_ad E 0 0)), some (.ref (hg_ad E 21 0)), some (.int (nI i))] [] (I', Lg', Rf', X') (hg_i (fun v _ => v = 1))) : hg_WP l E (d + 23) Y_L_law mc ms 624 [some (.ref (hg_ex E 0)), some (.ref (hg_ad E 0 0)), some (.ref (hg_ad E 21 0)), some (.int (nI i))] [] (I, Lg, Rf, X) (hg_i (fun v _ => v = 1)) := by
  have hX := hR0.cX
  refine hg_aload1 d_L_law_624 ?_
  refine hg_aload0 d_L_law_625 ?_
  refine hg_iload3 d_L_law_626 ?_
  refine hg_iconst (v := 1) d_L_law_627 (by decide) ?_
  refine hg_iadd d_L_law_628 ?_
  refine hg_eq1 (y := nI (i + 1)) (nI_add _ _) ?_
  refine hg_ialdT_n (j := (i + 1)) d_L_law_629 (fun s h => hx_scr h) (by omega) (by omega) ?_
  refine hg_aload0 d_L_law_630 ?_
  refine hg_iload3 d_L_law_631 ?_
  refine hg_iconst (v := 2) d_L_law_632 (by decide) ?_
  refine hg_iadd d_L_law_633 ?_
  refine hg_eq1 (y := nI (i + 2)) (nI_add _ _) ?_
  refine hg_ialdT_n (j := (i + 2)) d_L_law_634 (fun s h => hx_scr h) (by omega) (by omega) ?_
  refine hg_aload0 d_L_law_635 ?_
  refine hg_iload3 d_L_law_636 ?_
  refine hg_iconst (v := 3) d_L_law_637 (by decide) ?_
  refine hg_iadd d_L_law_638 ?_
  refine hg_eq1 (y := nI (i + 3)) (nI_add _ _) ?_
  refine hg_ialdT_n (j := (i + 3)) d_L_law_639 (fun s h => hx_scr h) (by omega) (by omega) ?_
  refine hg_cVi d_L_law_640 l_L_74 rfl rfl (hX.lt (n := 1) ⟨by decide, by decide⟩ rfl (by omega)) rfl (Nat.le_of_ble_eq_true rfl) (m_D_can (hR0.q hG) hG.2.1 (hR0.cL (r := 0) (by decide)) (hG.2.2.2.1 0 (by decide)) (fun i hi => (hG.2.2.2.2.1 0 (by decide) i hi).1)) rfl ?_
  rintro _ _ hA
  obtain ⟨rfl, I1, Lg1, Rf1, X1, rfl, hR1, kp1⟩ := hq_A.cp hR0 hG hA
  have hX1 := hR1.cX
  have hRf1 := hR1.cR
  have hM1 := hM0.kp kp1
  have hX := hR1.cX
  refine hg_aload2 d_L_law_643 ?_
  refine hg_aload0 d_L_law_644 ?_
  refine hg_iload3 d_L_law_645 ?_
  refine hg_iconst (v := 1) d_L_law_646 (by decide) ?_
  refine hg_iadd d_L_law_647 ?_
  refine hg_eq1 (y := nI (i + 1)) (nI_add _ _) ?_
  refine hg_ialdT_n (j := (i + 1)) d_L_law_648 (fun s h => hx_scr h) (by omega) (by omega) ?_
  refine hg_aload0 d_L_law_649 ?_
  refine hg_iload3 d_L_law_650 ?_
  refine hg_iconst (v := 2) d_L_law_651 (by decide) ?_
  refine hg_iadd d_L_law_652 ?_
  refine hg_eq1 (y := nI (i + 2)) (nI_add _ _) ?_
  refine hg_ialdT_n (j := (i + 2)) d_L_law_653 (fun s h => hx_scr h) (by omega) (by omega) ?_
  refine hg_aload0 d_L_law_654 ?_
  refine hg_iload3 d_L_law_655 ?_
  refine hg_iconst (v := 3) d_L_law_656 (by decide) ?_
  refine hg_iadd d_L_law_657 ?_
  refine hg_eq1 (y := nI (i + 3)) (nI_add _ _) ?_
  refine hg_ialdT_n (j := (i + 3)) d_L_law_658 (fun s h => hx_scr h) (by omega) (by omega) ?_
  refine hg_cVi d_L_law_659 l_L_77 rfl rfl (hX.lt (n := 1) ⟨by decide, by decide⟩ rfl (by omega)) rfl (Nat.le_of_ble_eq_true rfl) (m_M_can hX1 hRf1 hM1 hG) rfl ?_
  rintro _ _ ⟨rfl, I2, Lg2, rfl, hM2, lo2, loL2⟩
  refine hg_icmp_eq (tgt := 1231) d_L_law_662 (by decide) (fun h_1 => ?_) (fun h_1 => absurd (rfl) h_1)
  exact K _ I2 Lg2 Rf1 X1 (hR1.lo lo2 loL2) hM2 hG
theorem m_L_c15 {i : Nat} (hR0 : hs_CR G I Lg Rf X) (hM0 : hs_MR G I Lg) (hG : hs_gok G) (hi : i + 6 ≤ E.2.2.2.2.2.1) (hN : E.2.2.2.2.2.1 ≤ 3072) (K : ∀ (G' : hs_G) (I' : Nat → Nat → Nat → Int32) (Lg' : Nat → Nat → Nat → Int64) (Rf' : Nat → Nat → Nat → Option (Nat × Nat)) (X' : Nat × (Nat → Nat) × (Nat → Nat → Nat)), hs_CR G' I' Lg' Rf' X' → hs_MR G' I' Lg' → hs_gok G' → hg_WP l E (d + 23) Y_L_law mc ms 1231 [some (.ref (hg_ex E 0)), some (.ref (hg_ad E 0 0)), some (.ref (hg_ad E 21 0)), some (.int (nI i))] [] (I', Lg', Rf', X') (hg_i (fun v _ => v = 1))) : hg_WP l E (d + 23) Y_L_law mc ms 667 [some (.ref (hg_ex E 0)), some (.ref (hg_ad E 0 0)), some (.ref (hg_ad E 21 0)), some (.int (nI i))] [] (I, Lg, Rf, X) (hg_i (fun v _ => v = 1)) := by
  have hX := hR0.cX
  refine hg_aload1 d_L_law_667 ?_
  refine hg_aload0 d_L_law_668 ?_
  refine hg_iload3 d_L_law_669 ?_
  refine hg_iconst (v := 1) d_L_law_670 (by decide) ?_
  refine hg_iadd d_L_law_671 ?_
  refine hg_eq1 (y := nI (i + 1)) (nI_add _ _) ?_
  refine hg_ialdT_n (j := (i + 1)) d_L_law_672 (fun s h => hx_scr h) (by omega) (by omega) ?_
  refine hg_aload0 d_L_law_673 ?_
  refine hg_iload3 d_L_law_674 ?_
  refine hg_iconst (v := 2) d_L_law_675 (by decide) ?_
  refine hg_iadd d_L_law_676 ?_
  refine hg_eq1 (y := nI (i + 2)) (nI_add _ _) ?_
  refine hg_ialdT_n (j := (i + 2)) d_L_law_677 (fun s h => hx_scr h) (by omega) (by omega) ?_
  refine hg_cVl d_L_law_678 l_L_78 rfl rfl (hX.lt (n := 1) ⟨by decide, by decide⟩ rfl (by omega)) rfl (Nat.le_of_ble_eq_true rfl) (m_D_odds (hR0.q hG) hG.2.1) rfl ?_
  rintro _ _ hA
  obtain ⟨rfl, I1, Lg1, Rf1, X1, rfl, hR1, kp1⟩ := hq_A.cp hR0 hG hA
  have hX1 := hR1.cX
  have hRf1 := hR1.cR
  have hM1 := hM0.kp kp1
  have hX := hR1.cX
  refine hg_aload2 d_L_law_681 ?_
  refine hg_aload0 d_L_law_682 ?_
  refine hg_iload3 d_L_law_683 ?_
  refine hg_iconst (v := 1) d_L_law_684 (by decide) ?_
  refine hg_iadd d_L_law_685 ?_
  refine hg_eq1 (y := nI (i + 1)) (nI_add _ _) ?_
  refine hg_ialdT_n (j := (i + 1)) d_L_law_686 (fun s h => hx_scr h) (by omega) (by omega) ?_
  refine hg_aload0 d_L_law_687 ?_
  refine hg_iload3 d_L_law_688 ?_
  refine hg_iconst (v := 2) d_L_law_689 (by decide) ?_
  refine hg_iadd d_L_law_690 ?_
  refine hg_eq1 (y := nI (i + 2)) (nI_add _ _) ?_
  refine hg_ialdT_n (j := (i + 2)) d_L_law_691 (fun s h => hx_scr h) (by omega) (by omega) ?_
  refine hg_cVl d_L_law_692 l_L_82 rfl rfl (hX.lt (n := 1) ⟨by decide, by decide⟩ rfl (by omega)) rfl (Nat.le_of_ble_eq_true rfl) (m_M_odds hX1 hRf1 hM1 hG) rfl ?_
  rintro _ _ ⟨rfl, I2, Lg2, rfl, hM2, lo2, loL2⟩
  refine hg_lcmp d_L_law_695 ?_
  refine hg_if_eq (tgt := 1231) d_L_law_696 (by decide) (fun h_1 => ?_) (fun h_1 => absurd ((hs_lcmp _ _).mpr rfl) h_1)
  exact K _ I2 Lg2 Rf1 X1 (hR1.lo lo2 loL2) hM2 hG
theorem m_L_c16 {i : Nat} (hR0 : hs_CR G I Lg Rf X) (hM0 : hs_MR G I Lg) (hG : hs_gok G) (hi : i + 6 ≤ E.2.2.2.2.2.1) (hN : E.2.2.2.2.2.1 ≤ 3072) (K : ∀ (G' : hs_G) (I' : Nat → Nat → Nat → Int32) (Lg' : Nat → Nat → Nat → Int64) (Rf' : Nat → Nat → Nat → Option (Nat × Nat)) (X' : Nat × (Nat → Nat) × (Nat → Nat → Nat)), hs_CR G' I' Lg' Rf' X' → hs_MR G' I' Lg' → hs_gok G' → hg_WP l E (d + 23) Y_L_law mc ms 1231 [some (.ref (hg_ex E 0)), some (.ref (hg_ad E 0 0)), some (.ref (hg_ad E 21 0)), some (.int (nI i))] [] (I', Lg', Rf', X') (hg_i (fun v _ => v = 1))) : hg_WP l E (d + 23) Y_L_law mc ms 701 [some (.ref (hg_ex E 0)), some (.ref (hg_ad E 0 0)), some (.ref (hg_ad E 21 0)), some (.int (nI i))] [] (I, Lg, Rf, X) (hg_i (fun v _ => v = 1)) := by
  have hX := hR0.cX
  refine hg_aload1 d_L_law_701 ?_
  refine hg_aload0 d_L_law_702 ?_
  refine hg_iload3 d_L_law_703 ?_
  refine hg_iconst (v := 1) d_L_law_704 (by decide) ?_
  refine hg_iadd d_L_law_705 ?_
  refine hg_eq1 (y := nI (i + 1)) (nI_add _ _) ?_
  refine hg_ialdT_n (j := (i + 1)) d_L_law_706 (fun s h => hx_scr h) (by omega) (by omega) ?_
  refine hg_aload0 d_L_law_707 ?_
  refine hg_iload3 d_L_law_708 ?_
  refine hg_iconst (v := 2) d_L_law_709 (by decide) ?_
  refine hg_iadd d_L_law_710 ?_
  refine hg_eq1 (y := nI (i + 2)) (nI_add _ _) ?_
  refine hg_ialdT_n (j := (i + 2)) d_L_law_711 (fun s h => hx_scr h) (by omega) (by omega) ?_
  refine hg_cVl d_L_law_712 l_L_83 rfl rfl (hX.lt (n := 1) ⟨by decide, by decide⟩ rfl (by omega)) rfl (Nat.le_of_ble_eq_true rfl) (m_D_mean (hR0.q hG) hG.2.1) rfl ?_
  rintro _ _ hA
  obtain ⟨rfl, I1, Lg1, Rf1, X1, rfl, hR1, kp1⟩ := hq_A.cp hR0 hG hA
  have hX1 := hR1.cX
  have hRf1 := hR1.cR
  have hM1 := hM0.kp kp1
  have hX := hR1.cX
  refine hg_aload2 d_L_law_715 ?_
  refine hg_aload0 d_L_law_716 ?_
  refine hg_iload3 d_L_law_717 ?_
  refine hg_iconst (v := 1) d_L_law_718 (by decide) ?_
  refine hg_iadd d_L_law_719 ?_
  refine hg_eq1 (y := nI (i + 1)) (nI_add _ _) ?_
  refine hg_ialdT_n (j := (i + 1)) d_L_law_720 (fun s h => hx_scr h) (by omega) (by omega) ?_
  refine hg_aload0 d_L_law_721 ?_
  refine hg_iload3 d_L_law_722 ?_
  refine hg_iconst (v := 2) d_L_law_723 (by decide) ?_
  refine hg_iadd d_L_law_724 ?_
  refine hg_eq1 (y := nI (i + 2)) (nI_add _ _) ?_
  refine hg_ialdT_n (j := (i + 2)) d_L_law_725 (fun s h => hx_scr h) (by omega) (by omega) ?_
  refine hg_cVl d_L_law_726 l_L_86 rfl rfl (hX.lt (n := 1) ⟨by decide, by decide⟩ rfl (by omega)) rfl (Nat.le_of_ble_eq_true rfl) (m_M_mean hX1 hRf1 hM1 hG) rfl ?_
  rintro _ _ ⟨rfl, I2, Lg2, rfl, hM2, lo2, loL2⟩
  refine hg_lcmp d_L_law_729 ?_
  refine hg_if_eq (tgt := 1231) d_L_law_730 (by decide) (fun h_1 => ?_) (fun h_1 => absurd ((hs_lcmp _ _).mpr rfl) h_1)
  exact K _ I2 Lg2 Rf1 X1 (hR1.lo lo2 loL2) hM2 hG
theorem m_L_c17 {i : Nat} (hR0 : hs_CR G I Lg Rf X) (hM0 : hs_MR G I Lg) (hG : hs_gok G) (hi : i + 6 ≤ E.2.2.2.2.2.1) (hN : E.2.2.2.2.2.1 ≤ 3072) (K : ∀ (G' : hs_G) (I' : Nat → Nat → Nat → Int32) (Lg' : Nat → Nat → Nat → Int64) (Rf' : Nat → Nat → Nat → Option (Nat × Nat)) (X' : Nat × (Nat → Nat) × (Nat → Nat → Nat)), hs_CR G' I' Lg' Rf' X' → hs_MR G' I' Lg' → hs_gok G' → hg_WP l E (d + 23) Y_L_law mc ms 1231 [some (.ref (hg_ex E 0)), some (.ref (hg_ad E 0 0)), some (.ref (hg_ad E 21 0)), some (.int (nI i))] [] (I', Lg', Rf', X') (hg_i (fun v _ => v = 1))) : hg_WP l E (d + 23) Y_L_law mc ms 735 [some (.ref (hg_ex E 0)), some (.ref (hg_ad E 0 0)), some (.ref (hg_ad E 21 0)), some (.int (nI i))] [] (I, Lg, Rf, X) (hg_i (fun v _ => v = 1)) := by
  have hX := hR0.cX
  refine hg_aload1 d_L_law_735 ?_
  refine hg_aload0 d_L_law_736 ?_
  refine hg_iload3 d_L_law_737 ?_
  refine hg_iconst (v := 1) d_L_law_738 (by decide) ?_
  refine hg_iadd d_L_law_739 ?_
  refine hg_eq1 (y := nI (i + 1)) (nI_add _ _) ?_
  refine hg_ialdT_n (j := (i + 1)) d_L_law_740 (fun s h => hx_scr h) (by omega) (by omega) ?_
  refine hg_aload0 d_L_law_741 ?_
  refine hg_iload3 d_L_law_742 ?_
  refine hg_iconst (v := 2) d_L_law_743 (by decide) ?_
  refine hg_iadd d_L_law_744 ?_
  refine hg_eq1 (y := nI (i + 2)) (nI_add _ _) ?_
  refine hg_ialdT_n (j := (i + 2)) d_L_law_745 (fun s h => hx_scr h) (by omega) (by omega) ?_
  refine hg_cVi d_L_law_746 l_L_87 rfl rfl (hX.lt (n := 1) ⟨by decide, by decide⟩ rfl (by omega)) rfl (Nat.le_of_ble_eq_true rfl) (m_D_plan hR0 hG) rfl ?_
  rintro _ _ ⟨rfl, I1, Lg1, Rf1, X1, rfl, hR1, kp1⟩
  have eT : gT (so_plan G (E.2.2.2.2.2.2 (i + 1)) (E.2.2.2.2.2.2 (i + 2))).2 = gT G := by unfold so_plan so_lemp so_ladd; (repeat' split) <;> rfl
  have hX1 : hg_XS (gT G) X1 := by have := hR1.cX; rwa [eT] at this
  have hRf1 : hg_SR (gT G) Rf1 := by have := hR1.cR; rwa [eT] at this
  have hM1 := hM0.kp kp1
  have hX := hR1.cX
  refine hg_aload2 d_L_law_749 ?_
  refine hg_aload0 d_L_law_750 ?_
  refine hg_iload3 d_L_law_751 ?_
  refine hg_iconst (v := 1) d_L_law_752 (by decide) ?_
  refine hg_iadd d_L_law_753 ?_
  refine hg_eq1 (y := nI (i + 1)) (nI_add _ _) ?_
  refine hg_ialdT_n (j := (i + 1)) d_L_law_754 (fun s h => hx_scr h) (by omega) (by omega) ?_
  refine hg_aload0 d_L_law_755 ?_
  refine hg_iload3 d_L_law_756 ?_
  refine hg_iconst (v := 2) d_L_law_757 (by decide) ?_
  refine hg_iadd d_L_law_758 ?_
  refine hg_eq1 (y := nI (i + 2)) (nI_add _ _) ?_
  refine hg_ialdT_n (j := (i + 2)) d_L_law_759 (fun s h => hx_scr h) (by omega) (by omega) ?_
  refine hg_cVi d_L_law_760 l_L_90 rfl rfl (hX.lt (n := 1) ⟨by decide, by decide⟩ rfl (by omega)) rfl (Nat.le_of_ble_eq_true rfl) (m_M_plan hX1 hRf1 hM1 hG) rfl ?_
  rintro _ _ ⟨rfl, I2, Lg2, rfl, hM2, lo2, loL2⟩
  refine hg_icmp_eq (tgt := 1231) d_L_law_763 (by decide) (fun h_1 => ?_) (fun h_1 => absurd (rfl) h_1)
  exact K _ I2 Lg2 Rf1 X1 (hR1.lo lo2 loL2) hM2 (go_plan hG)
theorem m_L_c18 {i : Nat} (hR0 : hs_CR G I Lg Rf X) (hM0 : hs_MR G I Lg) (hG : hs_gok G) (hi : i + 6 ≤ E.2.2.2.2.2.1) (hN : E.2.2.2.2.2.1 ≤ 3072) (K : ∀ (G' : hs_G) (I' : Nat → Nat → Nat → Int32) (Lg' : Nat → Nat → Nat → Int64) (Rf' : Nat → Nat → Nat → Option (Nat × Nat)) (X' : Nat × (Nat → Nat) × (Nat → Nat → Nat)), hs_CR G' I' Lg' Rf' X' → hs_MR G' I' Lg' → hs_gok G' → hg_WP l E (d + 23) Y_L_law mc ms 1231 [some (.ref (hg_ex E 0)), some (.ref (hg_ad E 0 0)), some (.ref (hg_ad E 21 0)), some (.int (nI i))] [] (I', Lg', Rf', X') (hg_i (fun v _ => v = 1))) : hg_WP l E (d + 23) Y_L_law mc ms 768 [some (.ref (hg_ex E 0)), some (.ref (hg_ad E 0 0)), some (.ref (hg_ad E 21 0)), some (.int (nI i))] [] (I, Lg, Rf, X) (hg_i (fun v _ => v = 1)) := by
  have hX := hR0.cX
  refine hg_aload1 d_L_law_768 ?_
  refine hg_aload0 d_L_law_769 ?_
  refine hg_iload3 d_L_law_770 ?_
  refine hg_iconst (v := 1) d_L_law_771 (by decide) ?_
  refine hg_iadd d_L_law_772 ?_
  refine hg_eq1 (y := nI (i + 1)) (nI_add _ _) ?_
  refine hg_ialdT_n (j := (i + 1)) d_L_law_773 (fun s h => hx_scr h) (by omega) (by omega) ?_
  refine hg_cVi d_L_law_774 l_L_91 rfl rfl (hX.lt (n := 1) ⟨by decide, by decide⟩ rfl (by omega)) rfl (Nat.le_of_ble_eq_true rfl) (m_D_ends (hR0.q hG) hG.2.1 (hR0.cL (r := 2) (by decide)) (hG.2.2.2.1 2 (by decide)) (hG.2.2.2.2.1 1 (by decide))) rfl ?_
  rintro _ _ hA
  obtain ⟨rfl, I1, Lg1, Rf1, X1, rfl, hR1, kp1⟩ := hq_A.cp hR0 hG hA
  have hX1 := hR1.cX
  have hRf1 := hR1.cR
  have hM1 := hM0.kp kp1
  have hX := hR1.cX
  refine hg_aload2 d_L_law_777 ?_
  refine hg_aload0 d_L_law_778 ?_
  refine hg_iload3 d_L_law_779 ?_
  refine hg_iconst (v := 1) d_L_law_780 (by decide) ?_
  refine hg_iadd d_L_law_781 ?_
  refine hg_eq1 (y := nI (i + 1)) (nI_add _ _) ?_
  refine hg_ialdT_n (j := (i + 1)) d_L_law_782 (fun s h => hx_scr h) (by omega) (by omega) ?_
  refine hg_cVi d_L_law_783 l_L_94 rfl rfl (hX.lt (n := 1) ⟨by decide, by decide⟩ rfl (by omega)) rfl (Nat.le_of_ble_eq_true rfl) (m_M_ends hX1 hRf1 hM1 hG) rfl ?_
  rintro _ _ ⟨rfl, I2, Lg2, rfl, hM2, lo2, loL2⟩
  refine hg_icmp_eq (tgt := 1231) d_L_law_786 (by decide) (fun h_1 => ?_) (fun h_1 => absurd (rfl) h_1)
  exact K _ I2 Lg2 Rf1 X1 (hR1.lo lo2 loL2) hM2 hG
theorem m_L_c19 {i : Nat} (hR0 : hs_CR G I Lg Rf X) (hM0 : hs_MR G I Lg) (hG : hs_gok G) (hi : i + 6 ≤ E.2.2.2.2.2.1) (hN : E.2.2.2.2.2.1 ≤ 3072) (K : ∀ (G' : hs_G) (I' : Nat → Nat → Nat → Int32) (Lg' : Nat → Nat → Nat → Int64) (Rf' : Nat → Nat → Nat → Option (Nat × Nat)) (X' : Nat × (Nat → Nat) × (Nat → Nat → Nat)), hs_CR G' I' Lg' Rf' X' → hs_MR G' I' Lg' → hs_gok G' → hg_WP l E (d + 23) Y_L_law mc ms 1231 [some (.ref (hg_ex E 0)), some (.ref (hg_ad E 0 0)), some (.ref (hg_ad E 21 0)), some (.int (nI i))] [] (I', Lg', Rf', X') (hg_i (fun v _ => v = 1))) : hg_WP l E (d + 23) Y_L_law mc ms 791 [some (.ref (hg_ex E 0)), some (.ref (hg_ad E 0 0)), some (.ref (hg_ad E 21 0)), some (.int (nI i))] [] (I, Lg, Rf, X) (hg_i (fun v _ => v = 1)) := by
  have hX := hR0.cX
  refine hg_aload1 d_L_law_791 ?_
  refine hg_aload0 d_L_law_792 ?_
  refine hg_iload3 d_L_law_793 ?_
  refine hg_iconst (v := 1) d_L_law_794 (by decide) ?_
  refine hg_iadd d_L_law_795 ?_
  refine hg_eq1 (y := nI (i + 1)) (nI_add _ _) ?_
  refine hg_ialdT_n (j := (i + 1)) d_L_law_796 (fun s h => hx_scr h) (by omega) (by omega) ?_
  refine hg_aload0 d_L_law_797 ?_
  refine hg_iload3 d_L_law_798 ?_
  refine hg_iconst (v := 2) d_L_law_799 (by decide) ?_
  refine hg_iadd d_L_law_800 ?_
  refine hg_eq1 (y := nI (i + 2)) (nI_add _ _) ?_
  refine hg_ialdT_n (j := (i + 2)) d_L_law_801 (fun s h => hx_scr h) (by omega) (by omega) ?_
  refine hg_cVi d_L_law_802 l_L_95 rfl rfl (hX.lt (n := 1) ⟨by decide, by decide⟩ rfl (by omega)) rfl (Nat.le_of_ble_eq_true rfl) (m_D_book hR0 hG) rfl ?_
  rintro _ _ ⟨rfl, I1, Lg1, Rf1, X1, rfl, hR1, kp1⟩
  have eT : gT (so_book G (E.2.2.2.2.2.2 (i + 1)) (E.2.2.2.2.2.2 (i + 2))).2 = gT G := by unfold so_book so_lemp so_ladd; (repeat' split) <;> rfl
  have hX1 : hg_XS (gT G) X1 := by have := hR1.cX; rwa [eT] at this
  have hRf1 : hg_SR (gT G) Rf1 := by have := hR1.cR; rwa [eT] at this
  have hM1 := hM0.kp kp1
  have hX := hR1.cX
  refine hg_aload2 d_L_law_805 ?_
  refine hg_aload0 d_L_law_806 ?_
  refine hg_iload3 d_L_law_807 ?_
  refine hg_iconst (v := 1) d_L_law_808 (by decide) ?_
  refine hg_iadd d_L_law_809 ?_
  refine hg_eq1 (y := nI (i + 1)) (nI_add _ _) ?_
  refine hg_ialdT_n (j := (i + 1)) d_L_law_810 (fun s h => hx_scr h) (by omega) (by omega) ?_
  refine hg_aload0 d_L_law_811 ?_
  refine hg_iload3 d_L_law_812 ?_
  refine hg_iconst (v := 2) d_L_law_813 (by decide) ?_
  refine hg_iadd d_L_law_814 ?_
  refine hg_eq1 (y := nI (i + 2)) (nI_add _ _) ?_
  refine hg_ialdT_n (j := (i + 2)) d_L_law_815 (fun s h => hx_scr h) (by omega) (by omega) ?_
  refine hg_cVi d_L_law_816 l_L_98 rfl rfl (hX.lt (n := 1) ⟨by decide, by decide⟩ rfl (by omega)) rfl (Nat.le_of_ble_eq_true rfl) (m_M_book hX1 hRf1 hM1 hG) rfl ?_
  rintro _ _ ⟨rfl, I2, Lg2, rfl, hM2, lo2, loL2⟩
  refine hg_icmp_eq (tgt := 1231) d_L_law_819 (by decide) (fun h_1 => ?_) (fun h_1 => absurd (rfl) h_1)
  exact K _ I2 Lg2 Rf1 X1 (hR1.lo lo2 loL2) hM2 (go_book hG)
theorem m_L_c20 {i : Nat} (hR0 : hs_CR G I Lg Rf X) (hM0 : hs_MR G I Lg) (hG : hs_gok G) (hi : i + 6 ≤ E.2.2.2.2.2.1) (hN : E.2.2.2.2.2.1 ≤ 3072) (K : ∀ (G' : hs_G) (I' : Nat → Nat → Nat → Int32) (Lg' : Nat → Nat → Nat → Int64) (Rf' : Nat → Nat → Nat → Option (Nat × Nat)) (X' : Nat × (Nat → Nat) × (Nat → Nat → Nat)), hs_CR G' I' Lg' Rf' X' → hs_MR G' I' Lg' → hs_gok G' → hg_WP l E (d + 23) Y_L_law mc ms 1231 [some (.ref (hg_ex E 0)), some (.ref (hg_ad E 0 0)), some (.ref (hg_ad E 21 0)), some (.int (nI i))] [] (I', Lg', Rf', X') (hg_i (fun v _ => v = 1))) : hg_WP l E (d + 23) Y_L_law mc ms 824 [some (.ref (hg_ex E 0)), some (.ref (hg_ad E 0 0)), some (.ref (hg_ad E 21 0)), some (.int (nI i))] [] (I, Lg, Rf, X) (hg_i (fun v _ => v = 1)) := by
  have hX := hR0.cX
  refine hg_aload1 d_L_law_824 ?_
  refine hg_cVi d_L_law_825 l_L_99 rfl rfl (hX.lt (n := 1) ⟨by decide, by decide⟩ rfl (by omega)) rfl (Nat.le_of_ble_eq_true rfl) (m_D_looked (hR0.q hG) (hR0.cL (r := 4) (by decide)) (hG.2.2.2.1 4 (by decide)) (hG.2.2.2.2.1 2 (by decide))) rfl ?_
  rintro _ _ ⟨rfl, rfl⟩
  have hR1 := hR0
  have hX1 := hR1.cX
  have hRf1 := hR1.cR
  have hM1 := hM0
  refine hg_aload2 d_L_law_828 ?_
  refine hg_cVi d_L_law_829 l_L_102 rfl rfl (hX.lt (n := 1) ⟨by decide, by decide⟩ rfl (by omega)) rfl (Nat.le_of_ble_eq_true rfl) (m_M_looked hX1 hRf1 hM1 hG) rfl ?_
  rintro _ _ ⟨rfl, I2, Lg2, rfl, hM2, lo2, loL2⟩
  refine hg_icmp_eq (tgt := 1231) d_L_law_832 (by decide) (fun h_1 => ?_) (fun h_1 => absurd (rfl) h_1)
  exact K _ I2 Lg2 Rf X (hR1.lo lo2 loL2) hM2 hG
theorem m_L_c21 {i : Nat} (hR0 : hs_CR G I Lg Rf X) (hM0 : hs_MR G I Lg) (hG : hs_gok G) (hi : i + 6 ≤ E.2.2.2.2.2.1) (hN : E.2.2.2.2.2.1 ≤ 3072) (K : ∀ (G' : hs_G) (I' : Nat → Nat → Nat → Int32) (Lg' : Nat → Nat → Nat → Int64) (Rf' : Nat → Nat → Nat → Option (Nat × Nat)) (X' : Nat × (Nat → Nat) × (Nat → Nat → Nat)), hs_CR G' I' Lg' Rf' X' → hs_MR G' I' Lg' → hs_gok G' → hg_WP l E (d + 23) Y_L_law mc ms 1231 [some (.ref (hg_ex E 0)), some (.ref (hg_ad E 0 0)), some (.ref (hg_ad E 21 0)), some (.int (nI i))] [] (I', Lg', Rf', X') (hg_i (fun v _ => v = 1))) : hg_WP l E (d + 23) Y_L_law mc ms 837 [some (.ref (hg_ex E 0)), some (.ref (hg_ad E 0 0)), some (.ref (hg_ad E 21 0)), some (.int (nI i))] [] (I, Lg, Rf, X) (hg_i (fun v _ => v = 1)) := by
  have hX := hR0.cX
  refine hg_aload1 d_L_law_837 ?_
  refine hg_aload0 d_L_law_838 ?_
  refine hg_iload3 d_L_law_839 ?_
  refine hg_iconst (v := 1) d_L_law_840 (by decide) ?_
  refine hg_iadd d_L_law_841 ?_
  refine hg_eq1 (y := nI (i + 1)) (nI_add _ _) ?_
  refine hg_ialdT_n (j := (i + 1)) d_L_law_842 (fun s h => hx_scr h) (by omega) (by omega) ?_
  refine hg_aload0 d_L_law_843 ?_
  refine hg_iload3 d_L_law_844 ?_
  refine hg_iconst (v := 2) d_L_law_845 (by decide) ?_
  refine hg_iadd d_L_law_846 ?_
  refine hg_eq1 (y := nI (i + 2)) (nI_add _ _) ?_
  refine hg_ialdT_n (j := (i + 2)) d_L_law_847 (fun s h => hx_scr h) (by omega) (by omega) ?_
  refine hg_cVi d_L_law_848 l_L_103 rfl rfl (hX.lt (n := 1) ⟨by decide, by decide⟩ rfl (by omega)) rfl (Nat.le_of_ble_eq_true rfl) (m_D_judge (hR0.q hG) hR0.cP hG.2.2.2.2.2.2.2.2.2.2) rfl ?_
  rintro _ _ ⟨rfl, rfl⟩
  have hR1 := hR0
  have hX1 := hR1.cX
  have hRf1 := hR1.cR
  have hM1 := hM0
  refine hg_aload2 d_L_law_851 ?_
  refine hg_aload0 d_L_law_852 ?_
  refine hg_iload3 d_L_law_853 ?_
  refine hg_iconst (v := 1) d_L_law_854 (by decide) ?_
  refine hg_iadd d_L_law_855 ?_
  refine hg_eq1 (y := nI (i + 1)) (nI_add _ _) ?_
  refine hg_ialdT_n (j := (i + 1)) d_L_law_856 (fun s h => hx_scr h) (by omega) (by omega) ?_
  refine hg_aload0 d_L_law_857 ?_
  refine hg_iload3 d_L_law_858 ?_
  refine hg_iconst (v := 2) d_L_law_859 (by decide) ?_
  refine hg_iadd d_L_law_860 ?_
  refine hg_eq1 (y := nI (i + 2)) (nI_add _ _) ?_
  refine hg_ialdT_n (j := (i + 2)) d_L_law_861 (fun s h => hx_scr h) (by omega) (by omega) ?_
  refine hg_cVi d_L_law_862 l_L_106 rfl rfl (hX.lt (n := 1) ⟨by decide, by decide⟩ rfl (by omega)) rfl (Nat.le_of_ble_eq_true rfl) (m_M_judge hX1 hRf1 hM1 hG) rfl ?_
  rintro _ _ ⟨rfl, I2, Lg2, rfl, hM2, lo2, loL2⟩
  refine hg_icmp_eq (tgt := 1231) d_L_law_865 (by decide) (fun h_1 => ?_) (fun h_1 => absurd (rfl) h_1)
  exact K _ I2 Lg2 Rf X (hR1.lo lo2 loL2) hM2 hG
theorem m_L_c22 {i : Nat} (hR0 : hs_CR G I Lg Rf X) (hM0 : hs_MR G I Lg) (hG : hs_gok G) (hi : i + 6 ≤ E.2.2.2.2.2.1) (hN : E.2.2.2.2.2.1 ≤ 3072) (K : ∀ (G' : hs_G) (I' : Nat → Nat → Nat → Int32) (Lg' : Nat → Nat → Nat → Int64) (Rf' : Nat → Nat → Nat → Option (Nat × Nat)) (X' : Nat × (Nat → Nat) × (Nat → Nat → Nat)), hs_CR G' I' Lg' Rf' X' → hs_MR G' I' Lg' → hs_gok G' → hg_WP l E (d + 23) Y_L_law mc ms 1231 [some (.ref (hg_ex E 0)), some (.ref (hg_ad E 0 0)), some (.ref (hg_ad E 21 0)), some (.int (nI i))] [] (I', Lg', Rf', X') (hg_i (fun v _ => v = 1))) : hg_WP l E (d + 23) Y_L_law mc ms 870 [some (.ref (hg_ex E 0)), some (.ref (hg_ad E 0 0)), some (.ref (hg_ad E 21 0)), some (.int (nI i))] [] (I, Lg, Rf, X) (hg_i (fun v _ => v = 1)) := by
  have hX := hR0.cX
  refine hg_aload1 d_L_law_870 ?_
  refine hg_cVi d_L_law_871 l_L_107 rfl rfl (hX.lt (n := 1) ⟨by decide, by decide⟩ rfl (by omega)) rfl (Nat.le_of_ble_eq_true rfl) (m_D_image hR0 hG) rfl ?_
  rintro _ _ ⟨rfl, I1, Lg1, Rf1, X1, rfl, hR1, kp1⟩
  have eT : gT (so_image G).2 = gT G := by unfold so_image; (repeat' split) <;> rfl
  have hX1 : hg_XS (gT G) X1 := by have := hR1.cX; rwa [eT] at this
  have hRf1 : hg_SR (gT G) Rf1 := by have := hR1.cR; rwa [eT] at this
  have hM1 := hM0.kp kp1
  have hX := hR1.cX
  refine hg_aload2 d_L_law_874 ?_
  refine hg_cVi d_L_law_875 l_L_110 rfl rfl (hX.lt (n := 1) ⟨by decide, by decide⟩ rfl (by omega)) rfl (Nat.le_of_ble_eq_true rfl) (m_M_image hX1 hRf1 hM1 hG) rfl ?_
  rintro _ _ ⟨rfl, I2, Lg2, rfl, hM2, lo2, loL2⟩
  refine hg_icmp_eq (tgt := 1231) d_L_law_878 (by decide) (fun h_1 => ?_) (fun h_1 => absurd (rfl) h_1)
  exact K _ I2 Lg2 Rf1 X1 (hR1.lo lo2 loL2) hM2 (go_image hG)
theorem m_L_c23 {i : Nat} (hR0 : hs_CR G I Lg Rf X) (hM0 : hs_MR G I Lg) (hG : hs_gok G) (hi : i + 6 ≤ E.2.2.2.2.2.1) (hN : E.2.2.2.2.2.1 ≤ 3072) (K : ∀ (G' : hs_G) (I' : Nat → Nat → Nat → Int32) (Lg' : Nat → Nat → Nat → Int64) (Rf' : Nat → Nat → Nat → Option (Nat × Nat)) (X' : Nat × (Nat → Nat) × (Nat → Nat → Nat)), hs_CR G' I' Lg' Rf' X' → hs_MR G' I' Lg' → hs_gok G' → hg_WP l E (d + 23) Y_L_law mc ms 1231 [some (.ref (hg_ex E 0)), some (.ref (hg_ad E 0 0)), some (.ref (hg_ad E 21 0)), some (.int (nI i))] [] (I', Lg', Rf', X') (hg_i (fun v _ => v = 1))) : hg_WP l E (d + 23) Y_L_law mc ms 883 [some (.ref (hg_ex E 0)), some (.ref (hg_ad E 0 0)), some (.ref (hg_ad E 21 0)), some (.int (nI i))] [] (I, Lg, Rf, X) (hg_i (fun v _ => v = 1)) := by
  have hX := hR0.cX
  refine hg_aload1 d_L_law_883 ?_
  refine hg_cVi d_L_law_884 l_L_111 rfl rfl (hX.lt (n := 1) ⟨by decide, by decide⟩ rfl (by omega)) rfl (Nat.le_of_ble_eq_true rfl) (m_D_undo hR0 hG) rfl ?_
  rintro _ _ ⟨rfl, I1, Lg1, Rf1, X1, rfl, hR1, kp1⟩
  have eT : gT (so_undo G).2 = gT G := by unfold so_undo; (repeat' split) <;> rfl
  have hX1 : hg_XS (gT G) X1 := by have := hR1.cX; rwa [eT] at this
  have hRf1 : hg_SR (gT G) Rf1 := by have := hR1.cR; rwa [eT] at this
  have hM1 := hM0.kp kp1
  have hX := hR1.cX
  refine hg_aload2 d_L_law_887 ?_
  refine hg_cVi d_L_law_888 l_L_114 rfl rfl (hX.lt (n := 1) ⟨by decide, by decide⟩ rfl (by omega)) rfl (Nat.le_of_ble_eq_true rfl) (m_M_undo hX1 hRf1 hM1 hG) rfl ?_
  rintro _ _ ⟨rfl, I2, Lg2, rfl, hM2, lo2, loL2⟩
  refine hg_icmp_eq (tgt := 1231) d_L_law_891 (by decide) (fun h_1 => ?_) (fun h_1 => absurd (rfl) h_1)
  exact K _ I2 Lg2 Rf1 X1 (hR1.lo lo2 loL2) hM2 (go_undo hG)
theorem m_L_c24 {i : Nat} (hR0 : hs_CR G I Lg Rf X) (hM0 : hs_MR G I Lg) (hG : hs_gok G) (hi : i + 6 ≤ E.2.2.2.2.2.1) (hN : E.2.2.2.2.2.1 ≤ 3072) (K : ∀ (G' : hs_G) (I' : Nat → Nat → Nat → Int32) (Lg' : Nat → Nat → Nat → Int64) (Rf' : Nat → Nat → Nat → Option (Nat × Nat)) (X' : Nat × (Nat → Nat) × (Nat → Nat → Nat)), hs_CR G' I' Lg' Rf' X' → hs_MR G' I' Lg' → hs_gok G' → hg_WP l E (d + 23) Y_L_law mc ms 1231 [some (.ref (hg_ex E 0)), some (.ref (hg_ad E 0 0)), some (.ref (hg_ad E 21 0)), some (.int (nI i))] [] (I', Lg', Rf', X') (hg_i (fun v _ => v = 1))) : hg_WP l E (d + 23) Y_L_law mc ms 896 [some (.ref (hg_ex E 0)), some (.ref (hg_ad E 0 0)), some (.ref (hg_ad E 21 0)), some (.int (nI i))] [] (I, Lg, Rf, X) (hg_i (fun v _ => v = 1)) := by
  have hX := hR0.cX
  refine hg_aload1 d_L_law_896 ?_
  refine hg_aload0 d_L_law_897 ?_
  refine hg_iload3 d_L_law_898 ?_
  refine hg_iconst (v := 1) d_L_law_899 (by decide) ?_
  refine hg_iadd d_L_law_900 ?_
  refine hg_eq1 (y := nI (i + 1)) (nI_add _ _) ?_
  refine hg_ialdT_n (j := (i + 1)) d_L_law_901 (fun s h => hx_scr h) (by omega) (by omega) ?_
  refine hg_aload0 d_L_law_902 ?_
  refine hg_iload3 d_L_law_903 ?_
  refine hg_iconst (v := 2) d_L_law_904 (by decide) ?_
  refine hg_iadd d_L_law_905 ?_
  refine hg_eq1 (y := nI (i + 2)) (nI_add _ _) ?_
  refine hg_ialdT_n (j := (i + 2)) d_L_law_906 (fun s h => hx_scr h) (by omega) (by omega) ?_
  refine hg_aload0 d_L_law_907 ?_
  refine hg_iload3 d_L_law_908 ?_
  refine hg_iconst (v := 3) d_L_law_909 (by decide) ?_
  refine hg_iadd d_L_law_910 ?_
  refine hg_eq1 (y := nI (i + 3)) (nI_add _ _) ?_
  refine hg_ialdT_n (j := (i + 3)) d_L_law_911 (fun s h => hx_scr h) (by omega) (by omega) ?_
  refine hg_cVi d_L_law_912 l_L_115 rfl rfl (hX.lt (n := 1) ⟨by decide, by decide⟩ rfl (by omega)) rfl (Nat.le_of_ble_eq_true rfl) (m_D_act hR0 hG) rfl ?_
  rintro _ _ ⟨rfl, I1, Lg1, Rf1, X1, rfl, hR1, kp1⟩
  have eT : gT (so_act G (E.2.2.2.2.2.2 (i + 1)) (E.2.2.2.2.2.2 (i + 2)) (E.2.2.2.2.2.2 (i + 3))).2 = gT G := by unfold so_act; (repeat' split) <;> rfl
  have hX1 : hg_XS (gT G) X1 := by have := hR1.cX; rwa [eT] at this
  have hRf1 : hg_SR (gT G) Rf1 := by have := hR1.cR; rwa [eT] at this
  have hM1 := hM0.kp kp1
  have hX := hR1.cX
  refine hg_aload2 d_L_law_915 ?_
  refine hg_aload0 d_L_law_916 ?_
  refine hg_iload3 d_L_law_917 ?_
  refine hg_iconst (v := 1) d_L_law_918 (by decide) ?_
  refine hg_iadd d_L_law_919 ?_
  refine hg_eq1 (y := nI (i + 1)) (nI_add _ _) ?_
  refine hg_ialdT_n (j := (i + 1)) d_L_law_920 (fun s h => hx_scr h) (by omega) (by omega) ?_
  refine hg_aload0 d_L_law_921 ?_
  refine hg_iload3 d_L_law_922 ?_
  refine hg_iconst (v := 2) d_L_law_923 (by decide) ?_
  refine hg_iadd d_L_law_924 ?_
  refine hg_eq1 (y := nI (i + 2)) (nI_add _ _) ?_
  refine hg_ialdT_n (j := (i + 2)) d_L_law_925 (fun s h => hx_scr h) (by omega) (by omega) ?_
  refine hg_aload0 d_L_law_926 ?_
  refine hg_iload3 d_L_law_927 ?_
  refine hg_iconst (v := 3) d_L_law_928 (by decide) ?_
  refine hg_iadd d_L_law_929 ?_
  refine hg_eq1 (y := nI (i + 3)) (nI_add _ _) ?_
  refine hg_ialdT_n (j := (i + 3)) d_L_law_930 (fun s h => hx_scr h) (by omega) (by omega) ?_
  refine hg_cVi d_L_law_931 l_L_118 rfl rfl (hX.lt (n := 1) ⟨by decide, by decide⟩ rfl (by omega)) rfl (Nat.le_of_ble_eq_true rfl) (m_M_act hX1 hRf1 hM1 hG) rfl ?_
  rintro _ _ ⟨rfl, I2, Lg2, rfl, hM2, lo2, loL2⟩
  refine hg_icmp_eq (tgt := 1231) d_L_law_934 (by decide) (fun h_1 => ?_) (fun h_1 => absurd (rfl) h_1)
  exact K _ I2 Lg2 Rf1 X1 (hR1.lo lo2 loL2) hM2 (go_act hG)
theorem m_L_c25 {i : Nat} (hR0 : hs_CR G I Lg Rf X) (hM0 : hs_MR G I Lg) (hG : hs_gok G) (hi : i + 6 ≤ E.2.2.2.2.2.1) (hN : E.2.2.2.2.2.1 ≤ 3072) (K : ∀ (G' : hs_G) (I' : Nat → Nat → Nat → Int32) (Lg' : Nat → Nat → Nat → Int64) (Rf' : Nat → Nat → Nat → Option (Nat × Nat)) (X' : Nat × (Nat → Nat) × (Nat → Nat → Nat)), hs_CR G' I' Lg' Rf' X' → hs_MR G' I' Lg' → hs_gok G' → hg_WP l E (d + 23) Y_L_law mc ms 1231 [some (.ref (hg_ex E 0)), some (.ref (hg_ad E 0 0)), some (.ref (hg_ad E 21 0)), some (.int (nI i))] [] (I', Lg', Rf', X') (hg_i (fun v _ => v = 1))) : hg_WP l E (d + 23) Y_L_law mc ms 939 [some (.ref (hg_ex E 0)), some (.ref (hg_ad E 0 0)), some (.ref (hg_ad E 21 0)), some (.int (nI i))] [] (I, Lg, Rf, X) (hg_i (fun v _ => v = 1)) := by
  have hX := hR0.cX
  refine hg_aload1 d_L_law_939 ?_
  refine hg_aload0 d_L_law_940 ?_
  refine hg_iload3 d_L_law_941 ?_
  refine hg_iconst (v := 1) d_L_law_942 (by decide) ?_
  refine hg_iadd d_L_law_943 ?_
  refine hg_eq1 (y := nI (i + 1)) (nI_add _ _) ?_
  refine hg_ialdT_n (j := (i + 1)) d_L_law_944 (fun s h => hx_scr h) (by omega) (by omega) ?_
  refine hg_cVi d_L_law_945 l_L_119 rfl rfl (hX.lt (n := 1) ⟨by decide, by decide⟩ rfl (by omega)) rfl (Nat.le_of_ble_eq_true rfl) (m_D_trace hR0.cX hR0.cR hR0.cK hG.2.2.2.2.2.2.2.2.2.1) rfl ?_
  rintro _ _ ⟨rfl, rfl⟩
  have hR1 := hR0
  have hX1 := hR1.cX
  have hRf1 := hR1.cR
  have hM1 := hM0
  refine hg_aload2 d_L_law_948 ?_
  refine hg_aload0 d_L_law_949 ?_
  refine hg_iload3 d_L_law_950 ?_
  refine hg_iconst (v := 1) d_L_law_951 (by decide) ?_
  refine hg_iadd d_L_law_952 ?_
  refine hg_eq1 (y := nI (i + 1)) (nI_add _ _) ?_
  refine hg_ialdT_n (j := (i + 1)) d_L_law_953 (fun s h => hx_scr h) (by omega) (by omega) ?_
  refine hg_cVi d_L_law_954 l_L_122 rfl rfl (hX.lt (n := 1) ⟨by decide, by decide⟩ rfl (by omega)) rfl (Nat.le_of_ble_eq_true rfl) (m_M_trace hX1 hRf1 hM1 hG) rfl ?_
  rintro _ _ ⟨rfl, I2, Lg2, rfl, hM2, lo2, loL2⟩
  refine hg_icmp_eq (tgt := 1231) d_L_law_957 (by decide) (fun h_1 => ?_) (fun h_1 => absurd (rfl) h_1)
  exact K _ I2 Lg2 Rf X (hR1.lo lo2 loL2) hM2 hG
theorem m_L_c26 {i : Nat} (hR0 : hs_CR G I Lg Rf X) (hM0 : hs_MR G I Lg) (hG : hs_gok G) (hi : i + 6 ≤ E.2.2.2.2.2.1) (hN : E.2.2.2.2.2.1 ≤ 3072) (K : ∀ (G' : hs_G) (I' : Nat → Nat → Nat → Int32) (Lg' : Nat → Nat → Nat → Int64) (Rf' : Nat → Nat → Nat → Option (Nat × Nat)) (X' : Nat × (Nat → Nat) × (Nat → Nat → Nat)), hs_CR G' I' Lg' Rf' X' → hs_MR G' I' Lg' → hs_gok G' → hg_WP l E (d + 23) Y_L_law mc ms 1231 [some (.ref (hg_ex E 0)), some (.ref (hg_ad E 0 0)), some (.ref (hg_ad E 21 0)), some (.int (nI i))] [] (I', Lg', Rf', X') (hg_i (fun v _ => v = 1))) : hg_WP l E (d + 23) Y_L_law mc ms 962 [some (.ref (hg_ex E 0)), some (.ref (hg_ad E 0 0)), some (.ref (hg_ad E 21 0)), some (.int (nI i))] [] (I, Lg, Rf, X) (hg_i (fun v _ => v = 1)) := by
  have hX := hR0.cX
  refine hg_aload1 d_L_law_962 ?_
  refine hg_aload0 d_L_law_963 ?_
  refine hg_iload3 d_L_law_964 ?_
  refine hg_iconst (v := 1) d_L_law_965 (by decide) ?_
  refine hg_iadd d_L_law_966 ?_
  refine hg_eq1 (y := nI (i + 1)) (nI_add _ _) ?_
  refine hg_ialdT_n (j := (i + 1)) d_L_law_967 (fun s h => hx_scr h) (by omega) (by omega) ?_
  refine hg_aload0 d_L_law_968 ?_
  refine hg_iload3 d_L_law_969 ?_
  refine hg_iconst (v := 2) d_L_law_970 (by decide) ?_
  refine hg_iadd d_L_law_971 ?_
  refine hg_eq1 (y := nI (i + 2)) (nI_add _ _) ?_
  refine hg_ialdT_n (j := (i + 2)) d_L_law_972 (fun s h => hx_scr h) (by omega) (by omega) ?_
  refine hg_cVi d_L_law_973 l_L_123 rfl rfl (hX.lt (n := 1) ⟨by decide, by decide⟩ rfl (by omega)) rfl (Nat.le_of_ble_eq_true rfl) (m_D_taken (hR0.q hG)) rfl ?_
  rintro _ _ ⟨rfl, rfl⟩
  have hR1 := hR0
  have hX1 := hR1.cX
  have hRf1 := hR1.cR
  have hM1 := hM0
  refine hg_aload2 d_L_law_976 ?_
  refine hg_aload0 d_L_law_977 ?_
  refine hg_iload3 d_L_law_978 ?_
  refine hg_iconst (v := 1) d_L_law_979 (by decide) ?_
  refine hg_iadd d_L_law_980 ?_
  refine hg_eq1 (y := nI (i + 1)) (nI_add _ _) ?_
  refine hg_ialdT_n (j := (i + 1)) d_L_law_981 (fun s h => hx_scr h) (by omega) (by omega) ?_
  refine hg_aload0 d_L_law_982 ?_
  refine hg_iload3 d_L_law_983 ?_
  refine hg_iconst (v := 2) d_L_law_984 (by decide) ?_
  refine hg_iadd d_L_law_985 ?_
  refine hg_eq1 (y := nI (i + 2)) (nI_add _ _) ?_
  refine hg_ialdT_n (j := (i + 2)) d_L_law_986 (fun s h => hx_scr h) (by omega) (by omega) ?_
  refine hg_cVi d_L_law_987 l_L_126 rfl rfl (hX.lt (n := 1) ⟨by decide, by decide⟩ rfl (by omega)) rfl (Nat.le_of_ble_eq_true rfl) (m_M_taken hX1 hRf1 hM1 hG) rfl ?_
  rintro _ _ ⟨rfl, I2, Lg2, rfl, hM2, lo2, loL2⟩
  refine hg_icmp_eq (tgt := 1231) d_L_law_990 (by decide) (fun h_1 => ?_) (fun h_1 => absurd (rfl) h_1)
  exact K _ I2 Lg2 Rf X (hR1.lo lo2 loL2) hM2 hG
theorem m_L_c27 {i : Nat} (hR0 : hs_CR G I Lg Rf X) (hM0 : hs_MR G I Lg) (hG : hs_gok G) (hi : i + 6 ≤ E.2.2.2.2.2.1) (hN : E.2.2.2.2.2.1 ≤ 3072) (K : ∀ (G' : hs_G) (I' : Nat → Nat → Nat → Int32) (Lg' : Nat → Nat → Nat → Int64) (Rf' : Nat → Nat → Nat → Option (Nat × Nat)) (X' : Nat × (Nat → Nat) × (Nat → Nat → Nat)), hs_CR G' I' Lg' Rf' X' → hs_MR G' I' Lg' → hs_gok G' → hg_WP l E (d + 23) Y_L_law mc ms 1231 [some (.ref (hg_ex E 0)), some (.ref (hg_ad E 0 0)), some (.ref (hg_ad E 21 0)), some (.int (nI i))] [] (I', Lg', Rf', X') (hg_i (fun v _ => v = 1))) : hg_WP l E (d + 23) Y_L_law mc ms 995 [some (.ref (hg_ex E 0)), some (.ref (hg_ad E 0 0)), some (.ref (hg_ad E 21 0)), some (.int (nI i))] [] (I, Lg, Rf, X) (hg_i (fun v _ => v = 1)) := by
  have hX := hR0.cX
  refine hg_aload1 d_L_law_995 ?_
  refine hg_aload0 d_L_law_996 ?_
  refine hg_iload3 d_L_law_997 ?_
  refine hg_iconst (v := 1) d_L_law_998 (by decide) ?_
  refine hg_iadd d_L_law_999 ?_
  refine hg_eq1 (y := nI (i + 1)) (nI_add _ _) ?_
  refine hg_ialdT_n (j := (i + 1)) d_L_law_1000 (fun s h => hx_scr h) (by omega) (by omega) ?_
  refine hg_cVi d_L_law_1001 l_L_127 rfl rfl (hX.lt (n := 1) ⟨by decide, by decide⟩ rfl (by omega)) rfl (Nat.le_of_ble_eq_true rfl) (m_D_count (hR0.q hG) hR0.cT (hR0.cL (r := 0) (by decide)) (hR0.cL (r := 2) (by decide)) (hR0.cL (r := 4) (by decide)) hR0.cx1 hR0.cK) rfl ?_
  rintro _ _ ⟨rfl, rfl⟩
  have hR1 := hR0
  have hX1 := hR1.cX
  have hRf1 := hR1.cR
  have hM1 := hM0
  refine hg_aload2 d_L_law_1004 ?_
  refine hg_aload0 d_L_law_1005 ?_
  refine hg_iload3 d_L_law_1006 ?_
  refine hg_iconst (v := 1) d_L_law_1007 (by decide) ?_
  refine hg_iadd d_L_law_1008 ?_
  refine hg_eq1 (y := nI (i + 1)) (nI_add _ _) ?_
  refine hg_ialdT_n (j := (i + 1)) d_L_law_1009 (fun s h => hx_scr h) (by omega) (by omega) ?_
  refine hg_cVi d_L_law_1010 l_L_130 rfl rfl (hX.lt (n := 1) ⟨by decide, by decide⟩ rfl (by omega)) rfl (Nat.le_of_ble_eq_true rfl) (m_M_count hX1 hRf1 hM1 hG) rfl ?_
  rintro _ _ ⟨rfl, I2, Lg2, rfl, hM2, lo2, loL2⟩
  refine hg_icmp_eq (tgt := 1231) d_L_law_1013 (by decide) (fun h_1 => ?_) (fun h_1 => absurd (rfl) h_1)
  exact K _ I2 Lg2 Rf X (hR1.lo lo2 loL2) hM2 hG
theorem m_L_c28 {i : Nat} (hR0 : hs_CR G I Lg Rf X) (hM0 : hs_MR G I Lg) (hG : hs_gok G) (hi : i + 6 ≤ E.2.2.2.2.2.1) (hN : E.2.2.2.2.2.1 ≤ 3072) (K : ∀ (G' : hs_G) (I' : Nat → Nat → Nat → Int32) (Lg' : Nat → Nat → Nat → Int64) (Rf' : Nat → Nat → Nat → Option (Nat × Nat)) (X' : Nat × (Nat → Nat) × (Nat → Nat → Nat)), hs_CR G' I' Lg' Rf' X' → hs_MR G' I' Lg' → hs_gok G' → hg_WP l E (d + 23) Y_L_law mc ms 1231 [some (.ref (hg_ex E 0)), some (.ref (hg_ad E 0 0)), some (.ref (hg_ad E 21 0)), some (.int (nI i))] [] (I', Lg', Rf', X') (hg_i (fun v _ => v = 1))) : hg_WP l E (d + 23) Y_L_law mc ms 1018 [some (.ref (hg_ex E 0)), some (.ref (hg_ad E 0 0)), some (.ref (hg_ad E 21 0)), some (.int (nI i))] [] (I, Lg, Rf, X) (hg_i (fun v _ => v = 1)) := by
  have hX := hR0.cX
  refine hg_aload1 d_L_law_1018 ?_
  refine hg_aload0 d_L_law_1019 ?_
  refine hg_iload3 d_L_law_1020 ?_
  refine hg_iconst (v := 1) d_L_law_1021 (by decide) ?_
  refine hg_iadd d_L_law_1022 ?_
  refine hg_eq1 (y := nI (i + 1)) (nI_add _ _) ?_
  refine hg_ialdT_n (j := (i + 1)) d_L_law_1023 (fun s h => hx_scr h) (by omega) (by omega) ?_
  refine hg_aload0 d_L_law_1024 ?_
  refine hg_iload3 d_L_law_1025 ?_
  refine hg_iconst (v := 2) d_L_law_1026 (by decide) ?_
  refine hg_iadd d_L_law_1027 ?_
  refine hg_eq1 (y := nI (i + 2)) (nI_add _ _) ?_
  refine hg_ialdT_n (j := (i + 2)) d_L_law_1028 (fun s h => hx_scr h) (by omega) (by omega) ?_
  refine hg_aload0 d_L_law_1029 ?_
  refine hg_iload3 d_L_law_1030 ?_
  refine hg_iconst (v := 3) d_L_law_1031 (by decide) ?_
  refine hg_iadd d_L_law_1032 ?_
  refine hg_eq1 (y := nI (i + 3)) (nI_add _ _) ?_
  refine hg_ialdT_n (j := (i + 3)) d_L_law_1033 (fun s h => hx_scr h) (by omega) (by omega) ?_
  refine hg_cVi d_L_law_1034 l_L_131 rfl rfl (hX.lt (n := 1) ⟨by decide, by decide⟩ rfl (by omega)) rfl (Nat.le_of_ble_eq_true rfl) (m_D_tape hR0 hG) rfl ?_
  rintro _ _ ⟨rfl, I1, Lg1, Rf1, X1, rfl, hR1, kp1⟩
  have eT : gT (so_tape G (E.2.2.2.2.2.2 (i + 1)) (E.2.2.2.2.2.2 (i + 2)) (E.2.2.2.2.2.2 (i + 3))).2 = gT G := by unfold so_tape; (repeat' split) <;> rfl
  have hX1 : hg_XS (gT G) X1 := by have := hR1.cX; rwa [eT] at this
  have hRf1 : hg_SR (gT G) Rf1 := by have := hR1.cR; rwa [eT] at this
  have hM1 := hM0.kp kp1
  have hX := hR1.cX
  refine hg_aload2 d_L_law_1037 ?_
  refine hg_aload0 d_L_law_1038 ?_
  refine hg_iload3 d_L_law_1039 ?_
  refine hg_iconst (v := 1) d_L_law_1040 (by decide) ?_
  refine hg_iadd d_L_law_1041 ?_
  refine hg_eq1 (y := nI (i + 1)) (nI_add _ _) ?_
  refine hg_ialdT_n (j := (i + 1)) d_L_law_1042 (fun s h => hx_scr h) (by omega) (by omega) ?_
  refine hg_aload0 d_L_law_1043 ?_
  refine hg_iload3 d_L_law_1044 ?_
  refine hg_iconst (v := 2) d_L_law_1045 (by decide) ?_
  refine hg_iadd d_L_law_1046 ?_
  refine hg_eq1 (y := nI (i + 2)) (nI_add _ _) ?_
  refine hg_ialdT_n (j := (i + 2)) d_L_law_1047 (fun s h => hx_scr h) (by omega) (by omega) ?_
  refine hg_aload0 d_L_law_1048 ?_
  refine hg_iload3 d_L_law_1049 ?_
  refine hg_iconst (v := 3) d_L_law_1050 (by decide) ?_
  refine hg_iadd d_L_law_1051 ?_
  refine hg_eq1 (y := nI (i + 3)) (nI_add _ _) ?_
  refine hg_ialdT_n (j := (i + 3)) d_L_law_1052 (fun s h => hx_scr h) (by omega) (by omega) ?_
  refine hg_cVi d_L_law_1053 l_L_134 rfl rfl (hX.lt (n := 1) ⟨by decide, by decide⟩ rfl (by omega)) rfl (Nat.le_of_ble_eq_true rfl) (m_M_tape hX1 hRf1 hM1 hG) rfl ?_
  rintro _ _ ⟨rfl, I2, Lg2, rfl, hM2, lo2, loL2⟩
  refine hg_icmp_eq (tgt := 1231) d_L_law_1056 (by decide) (fun h_1 => ?_) (fun h_1 => absurd (rfl) h_1)
  exact K _ I2 Lg2 Rf1 X1 (hR1.lo lo2 loL2) hM2 (go_tape hG)
theorem m_L_c29 {i : Nat} (hR0 : hs_CR G I Lg Rf X) (hM0 : hs_MR G I Lg) (hG : hs_gok G) (hi : i + 6 ≤ E.2.2.2.2.2.1) (hN : E.2.2.2.2.2.1 ≤ 3072) (K : ∀ (G' : hs_G) (I' : Nat → Nat → Nat → Int32) (Lg' : Nat → Nat → Nat → Int64) (Rf' : Nat → Nat → Nat → Option (Nat × Nat)) (X' : Nat × (Nat → Nat) × (Nat → Nat → Nat)), hs_CR G' I' Lg' Rf' X' → hs_MR G' I' Lg' → hs_gok G' → hg_WP l E (d + 23) Y_L_law mc ms 1231 [some (.ref (hg_ex E 0)), some (.ref (hg_ad E 0 0)), some (.ref (hg_ad E 21 0)), some (.int (nI i))] [] (I', Lg', Rf', X') (hg_i (fun v _ => v = 1))) : hg_WP l E (d + 23) Y_L_law mc ms 1061 [some (.ref (hg_ex E 0)), some (.ref (hg_ad E 0 0)), some (.ref (hg_ad E 21 0)), some (.int (nI i))] [] (I, Lg, Rf, X) (hg_i (fun v _ => v = 1)) := by
  have hX := hR0.cX
  refine hg_aload1 d_L_law_1061 ?_
  refine hg_aload0 d_L_law_1062 ?_
  refine hg_iload3 d_L_law_1063 ?_
  refine hg_iconst (v := 1) d_L_law_1064 (by decide) ?_
  refine hg_iadd d_L_law_1065 ?_
  refine hg_eq1 (y := nI (i + 1)) (nI_add _ _) ?_
  refine hg_ialdT_n (j := (i + 1)) d_L_law_1066 (fun s h => hx_scr h) (by omega) (by omega) ?_
  refine hg_aload0 d_L_law_1067 ?_
  refine hg_iload3 d_L_law_1068 ?_
  refine hg_iconst (v := 2) d_L_law_1069 (by decide) ?_
  refine hg_iadd d_L_law_1070 ?_
  refine hg_eq1 (y := nI (i + 2)) (nI_add _ _) ?_
  refine hg_ialdT_n (j := (i + 2)) d_L_law_1071 (fun s h => hx_scr h) (by omega) (by omega) ?_
  refine hg_aload0 d_L_law_1072 ?_
  refine hg_iload3 d_L_law_1073 ?_
  refine hg_iconst (v := 3) d_L_law_1074 (by decide) ?_
  refine hg_iadd d_L_law_1075 ?_
  refine hg_eq1 (y := nI (i + 3)) (nI_add _ _) ?_
  refine hg_ialdT_n (j := (i + 3)) d_L_law_1076 (fun s h => hx_scr h) (by omega) (by omega) ?_
  refine hg_i2l d_L_law_1077 ?_
  refine hg_bipush (v := 32) d_L_law_1078 (by decide) ?_
  refine hg_lshl d_L_law_1080 ?_
  refine hg_aload0 d_L_law_1081 ?_
  refine hg_iload3 d_L_law_1082 ?_
  refine hg_iconst (v := 4) d_L_law_1083 (by decide) ?_
  refine hg_iadd d_L_law_1084 ?_
  refine hg_eq1 (y := nI (i + 4)) (nI_add _ _) ?_
  refine hg_ialdT_n (j := (i + 4)) d_L_law_1085 (fun s h => hx_scr h) (by omega) (by omega) ?_
  refine hg_i2l d_L_law_1086 ?_
  refine hg_ldc2 d_L_law_1087 c_L_135 ?_
  refine hg_land d_L_law_1090 ?_
  refine hg_lor d_L_law_1091 ?_
  refine hg_cVi d_L_law_1092 l_L_137 rfl rfl (hX.lt (n := 1) ⟨by decide, by decide⟩ rfl (by omega)) rfl (Nat.le_of_ble_eq_true rfl) (m_D_item hR0 hG) rfl ?_
  rintro _ _ ⟨rfl, I1, Lg1, Rf1, X1, rfl, hR1, kp1⟩
  have eT : gT (so_item G (E.2.2.2.2.2.2 (i + 1)) (E.2.2.2.2.2.2 (i + 2)) ((((E.2.2.2.2.2.2 (i + 3)).toInt64) <<< ((32 : Int32).toInt64 &&& 63)) ||| (((E.2.2.2.2.2.2 (i + 4)).toInt64) &&& (4294967295)))).2 = gT G := by unfold so_item; (repeat' split) <;> rfl
  have hX1 : hg_XS (gT G) X1 := by have := hR1.cX; rwa [eT] at this
  have hRf1 : hg_SR (gT G) Rf1 := by have := hR1.cR; rwa [eT] at this
  have hM1 := hM0.kp kp1
  have hX := hR1.cX
  refine hg_aload2 d_L_law_1095 ?_
  refine hg_aload0 d_L_law_1096 ?_
  refine hg_iload3 d_L_law_1097 ?_
  refine hg_iconst (v := 1) d_L_law_1098 (by decide) ?_
  refine hg_iadd d_L_law_1099 ?_
  refine hg_eq1 (y := nI (i + 1)) (nI_add _ _) ?_
  refine hg_ialdT_n (j := (i + 1)) d_L_law_1100 (fun s h => hx_scr h) (by omega) (by omega) ?_
  refine hg_aload0 d_L_law_1101 ?_
  refine hg_iload3 d_L_law_1102 ?_
  refine hg_iconst (v := 2) d_L_law_1103 (by decide) ?_
  refine hg_iadd d_L_law_1104 ?_
  refine hg_eq1 (y := nI (i + 2)) (nI_add _ _) ?_
  refine hg_ialdT_n (j := (i + 2)) d_L_law_1105 (fun s h => hx_scr h) (by omega) (by omega) ?_
  refine hg_aload0 d_L_law_1106 ?_
  refine hg_iload3 d_L_law_1107 ?_
  refine hg_iconst (v := 3) d_L_law_1108 (by decide) ?_
  refine hg_iadd d_L_law_1109 ?_
  refine hg_eq1 (y := nI (i + 3)) (nI_add _ _) ?_
  refine hg_ialdT_n (j := (i + 3)) d_L_law_1110 (fun s h => hx_scr h) (by omega) (by omega) ?_
  refine hg_i2l d_L_law_1111 ?_
  refine hg_bipush (v := 32) d_L_law_1112 (by decide) ?_
  refine hg_lshl d_L_law_1114 ?_
  refine hg_aload0 d_L_law_1115 ?_
  refine hg_iload3 d_L_law_1116 ?_
  refine hg_iconst (v := 4) d_L_law_1117 (by decide) ?_
  refine hg_iadd d_L_law_1118 ?_
  refine hg_eq1 (y := nI (i + 4)) (nI_add _ _) ?_
  refine hg_ialdT_n (j := (i + 4)) d_L_law_1119 (fun s h => hx_scr h) (by omega) (by omega) ?_
  refine hg_i2l d_L_law_1120 ?_
  refine hg_ldc2 d_L_law_1121 c_L_135 ?_
  refine hg_land d_L_law_1124 ?_
  refine hg_lor d_L_law_1125 ?_
  refine hg_cVi d_L_law_1126 l_L_141 rfl rfl (hX.lt (n := 1) ⟨by decide, by decide⟩ rfl (by omega)) rfl (Nat.le_of_ble_eq_true rfl) (m_M_item hX1 hRf1 hM1 hG) rfl ?_
  rintro _ _ ⟨rfl, I2, Lg2, rfl, hM2, lo2, loL2⟩
  refine hg_icmp_eq (tgt := 1231) d_L_law_1129 (by decide) (fun h_1 => ?_) (fun h_1 => absurd (rfl) h_1)
  exact K _ I2 Lg2 Rf1 X1 (hR1.lo lo2 loL2) hM2 (go_item hG)
theorem m_L_c30 {i : Nat} (hR0 : hs_CR G I Lg Rf X) (hM0 : hs_MR G I Lg) (hG : hs_gok G) (hi : i + 6 ≤ E.2.2.2.2.2.1) (hN : E.2.2.2.2.2.1 ≤ 3072) (K : ∀ (G' : hs_G) (I' : Nat → Nat → Nat → Int32) (Lg' : Nat → Nat → Nat → Int64) (Rf' : Nat → Nat → Nat → Option (Nat × Nat)) (X' : Nat × (Nat → Nat) × (Nat → Nat → Nat)), hs_CR G' I' Lg' Rf' X' → hs_MR G' I' Lg' → hs_gok G' → hg_WP l E (d + 23) Y_L_law mc ms 1231 [some (.ref (hg_ex E 0)), some (.ref (hg_ad E 0 0)), some (.ref (hg_ad E 21 0)), some (.int (nI i))] [] (I', Lg', Rf', X') (hg_i (fun v _ => v = 1))) : hg_WP l E (d + 23) Y_L_law mc ms 1134 [some (.ref (hg_ex E 0)), some (.ref (hg_ad E 0 0)), some (.ref (hg_ad E 21 0)), some (.int (nI i))] [] (I, Lg, Rf, X) (hg_i (fun v _ => v = 1)) := by
  have hX := hR0.cX
  refine hg_aload1 d_L_law_1134 ?_
  refine hg_aload0 d_L_law_1135 ?_
  refine hg_iload3 d_L_law_1136 ?_
  refine hg_iconst (v := 1) d_L_law_1137 (by decide) ?_
  refine hg_iadd d_L_law_1138 ?_
  refine hg_eq1 (y := nI (i + 1)) (nI_add _ _) ?_
  refine hg_ialdT_n (j := (i + 1)) d_L_law_1139 (fun s h => hx_scr h) (by omega) (by omega) ?_
  refine hg_aload0 d_L_law_1140 ?_
  refine hg_iload3 d_L_law_1141 ?_
  refine hg_iconst (v := 2) d_L_law_1142 (by decide) ?_
  refine hg_iadd d_L_law_1143 ?_
  refine hg_eq1 (y := nI (i + 2)) (nI_add _ _) ?_
  refine hg_ialdT_n (j := (i + 2)) d_L_law_1144 (fun s h => hx_scr h) (by omega) (by omega) ?_
  refine hg_cVl d_L_law_1145 l_L_142 rfl rfl (hX.lt (n := 1) ⟨by decide, by decide⟩ rfl (by omega)) rfl (Nat.le_of_ble_eq_true rfl) (m_D_read hR0.cX hR0.cR hR0.cP hG.2.2.2.2.2.2.2.2.2.2) rfl ?_
  rintro _ _ ⟨rfl, rfl⟩
  have hR1 := hR0
  have hX1 := hR1.cX
  have hRf1 := hR1.cR
  have hM1 := hM0
  refine hg_aload2 d_L_law_1148 ?_
  refine hg_aload0 d_L_law_1149 ?_
  refine hg_iload3 d_L_law_1150 ?_
  refine hg_iconst (v := 1) d_L_law_1151 (by decide) ?_
  refine hg_iadd d_L_law_1152 ?_
  refine hg_eq1 (y := nI (i + 1)) (nI_add _ _) ?_
  refine hg_ialdT_n (j := (i + 1)) d_L_law_1153 (fun s h => hx_scr h) (by omega) (by omega) ?_
  refine hg_aload0 d_L_law_1154 ?_
  refine hg_iload3 d_L_law_1155 ?_
  refine hg_iconst (v := 2) d_L_law_1156 (by decide) ?_
  refine hg_iadd d_L_law_1157 ?_
  refine hg_eq1 (y := nI (i + 2)) (nI_add _ _) ?_
  refine hg_ialdT_n (j := (i + 2)) d_L_law_1158 (fun s h => hx_scr h) (by omega) (by omega) ?_
  refine hg_cVl d_L_law_1159 l_L_145 rfl rfl (hX.lt (n := 1) ⟨by decide, by decide⟩ rfl (by omega)) rfl (Nat.le_of_ble_eq_true rfl) (m_M_read hX1 hRf1 hM1 hG) rfl ?_
  rintro _ _ ⟨rfl, I2, Lg2, rfl, hM2, lo2, loL2⟩
  refine hg_lcmp d_L_law_1162 ?_
  refine hg_if_eq (tgt := 1231) d_L_law_1163 (by decide) (fun h_1 => ?_) (fun h_1 => absurd ((hs_lcmp _ _).mpr rfl) h_1)
  exact K _ I2 Lg2 Rf X (hR1.lo lo2 loL2) hM2 hG
theorem m_L_c31 {i : Nat} (hR0 : hs_CR G I Lg Rf X) (hM0 : hs_MR G I Lg) (hG : hs_gok G) (hi : i + 6 ≤ E.2.2.2.2.2.1) (hN : E.2.2.2.2.2.1 ≤ 3072) (K : ∀ (G' : hs_G) (I' : Nat → Nat → Nat → Int32) (Lg' : Nat → Nat → Nat → Int64) (Rf' : Nat → Nat → Nat → Option (Nat × Nat)) (X' : Nat × (Nat → Nat) × (Nat → Nat → Nat)), hs_CR G' I' Lg' Rf' X' → hs_MR G' I' Lg' → hs_gok G' → hg_WP l E (d + 23) Y_L_law mc ms 1231 [some (.ref (hg_ex E 0)), some (.ref (hg_ad E 0 0)), some (.ref (hg_ad E 21 0)), some (.int (nI i))] [] (I', Lg', Rf', X') (hg_i (fun v _ => v = 1))) : hg_WP l E (d + 23) Y_L_law mc ms 1168 [some (.ref (hg_ex E 0)), some (.ref (hg_ad E 0 0)), some (.ref (hg_ad E 21 0)), some (.int (nI i))] [] (I, Lg, Rf, X) (hg_i (fun v _ => v = 1)) := by
  have hX := hR0.cX
  refine hg_aload1 d_L_law_1168 ?_
  refine hg_aload0 d_L_law_1169 ?_
  refine hg_iload3 d_L_law_1170 ?_
  refine hg_iconst (v := 1) d_L_law_1171 (by decide) ?_
  refine hg_iadd d_L_law_1172 ?_
  refine hg_eq1 (y := nI (i + 1)) (nI_add _ _) ?_
  refine hg_ialdT_n (j := (i + 1)) d_L_law_1173 (fun s h => hx_scr h) (by omega) (by omega) ?_
  refine hg_aload0 d_L_law_1174 ?_
  refine hg_iload3 d_L_law_1175 ?_
  refine hg_iconst (v := 2) d_L_law_1176 (by decide) ?_
  refine hg_iadd d_L_law_1177 ?_
  refine hg_eq1 (y := nI (i + 2)) (nI_add _ _) ?_
  refine hg_ialdT_n (j := (i + 2)) d_L_law_1178 (fun s h => hx_scr h) (by omega) (by omega) ?_
  refine hg_aload0 d_L_law_1179 ?_
  refine hg_iload3 d_L_law_1180 ?_
  refine hg_iconst (v := 3) d_L_law_1181 (by decide) ?_
  refine hg_iadd d_L_law_1182 ?_
  refine hg_eq1 (y := nI (i + 3)) (nI_add _ _) ?_
  refine hg_ialdT_n (j := (i + 3)) d_L_law_1183 (fun s h => hx_scr h) (by omega) (by omega) ?_
  refine hg_aload0 d_L_law_1184 ?_
  refine hg_iload3 d_L_law_1185 ?_
  refine hg_iconst (v := 4) d_L_law_1186 (by decide) ?_
  refine hg_iadd d_L_law_1187 ?_
  refine hg_eq1 (y := nI (i + 4)) (nI_add _ _) ?_
  refine hg_ialdT_n (j := (i + 4)) d_L_law_1188 (fun s h => hx_scr h) (by omega) (by omega) ?_
  refine hg_aload0 d_L_law_1189 ?_
  refine hg_iload3 d_L_law_1190 ?_
  refine hg_iconst (v := 5) d_L_law_1191 (by decide) ?_
  refine hg_iadd d_L_law_1192 ?_
  refine hg_eq1 (y := nI (i + 5)) (nI_add _ _) ?_
  refine hg_ialdT_n (j := (i + 5)) d_L_law_1193 (fun s h => hx_scr h) (by omega) (by omega) ?_
  refine hg_cVi d_L_law_1194 l_L_146 rfl rfl (hX.lt (n := 1) ⟨by decide, by decide⟩ rfl (by omega)) rfl (Nat.le_of_ble_eq_true rfl) (m_D_shift hR0 hG) rfl ?_
  rintro _ _ ⟨rfl, I1, Lg1, Rf1, X1, rfl, hR1, kp1⟩
  have eT : gT (so_shift G (E.2.2.2.2.2.2 (i + 1)) (E.2.2.2.2.2.2 (i + 2)) (E.2.2.2.2.2.2 (i + 3)) (E.2.2.2.2.2.2 (i + 4)) (E.2.2.2.2.2.2 (i + 5))).2 = gT G := by unfold so_shift; (repeat' split) <;> rfl
  have hX1 : hg_XS (gT G) X1 := by have := hR1.cX; rwa [eT] at this
  have hRf1 : hg_SR (gT G) Rf1 := by have := hR1.cR; rwa [eT] at this
  have hM1 := hM0.kp kp1
  have hX := hR1.cX
  refine hg_aload2 d_L_law_1197 ?_
  refine hg_aload0 d_L_law_1198 ?_
  refine hg_iload3 d_L_law_1199 ?_
  refine hg_iconst (v := 1) d_L_law_1200 (by decide) ?_
  refine hg_iadd d_L_law_1201 ?_
  refine hg_eq1 (y := nI (i + 1)) (nI_add _ _) ?_
  refine hg_ialdT_n (j := (i + 1)) d_L_law_1202 (fun s h => hx_scr h) (by omega) (by omega) ?_
  refine hg_aload0 d_L_law_1203 ?_
  refine hg_iload3 d_L_law_1204 ?_
  refine hg_iconst (v := 2) d_L_law_1205 (by decide) ?_
  refine hg_iadd d_L_law_1206 ?_
  refine hg_eq1 (y := nI (i + 2)) (nI_add _ _) ?_
  refine hg_ialdT_n (j := (i + 2)) d_L_law_1207 (fun s h => hx_scr h) (by omega) (by omega) ?_
  refine hg_aload0 d_L_law_1208 ?_
  refine hg_iload3 d_L_law_1209 ?_
  refine hg_iconst (v := 3) d_L_law_1210 (by decide) ?_
  refine hg_iadd d_L_law_1211 ?_
  refine hg_eq1 (y := nI (i + 3)) (nI_add _ _) ?_
  refine hg_ialdT_n (j := (i + 3)) d_L_law_1212 (fun s h => hx_scr h) (by omega) (by omega) ?_
  refine hg_aload0 d_L_law_1213 ?_
  refine hg_iload3 d_L_law_1214 ?_
  refine hg_iconst (v := 4) d_L_law_1215 (by decide) ?_
  refine hg_iadd d_L_law_1216 ?_
  refine hg_eq1 (y := nI (i + 4)) (nI_add _ _) ?_
  refine hg_ialdT_n (j := (i + 4)) d_L_law_1217 (fun s h => hx_scr h) (by omega) (by omega) ?_
  refine hg_aload0 d_L_law_1218 ?_
  refine hg_iload3 d_L_law_1219 ?_
  refine hg_iconst (v := 5) d_L_law_1220 (by decide) ?_
  refine hg_iadd d_L_law_1221 ?_
  refine hg_eq1 (y := nI (i + 5)) (nI_add _ _) ?_
  refine hg_ialdT_n (j := (i + 5)) d_L_law_1222 (fun s h => hx_scr h) (by omega) (by omega) ?_
  refine hg_cVi d_L_law_1223 l_L_150 rfl rfl (hX.lt (n := 1) ⟨by decide, by decide⟩ rfl (by omega)) rfl (Nat.le_of_ble_eq_true rfl) (m_M_shift hX1 hRf1 hM1 hG) rfl ?_
  rintro _ _ ⟨rfl, I2, Lg2, rfl, hM2, lo2, loL2⟩
  refine hg_icmp_eq (tgt := 1231) d_L_law_1226 (by decide) (fun h_1 => ?_) (fun h_1 => absurd (rfl) h_1)
  exact K _ I2 Lg2 Rf1 X1 (hR1.lo lo2 loL2) hM2 (go_shift hG)
theorem m_L_loop (hN : E.2.2.2.2.2.1 ≤ 3072) : ∀ (k i mc ms : Nat) (G : hs_G) (I : Nat → Nat → Nat → Int32) (Lg : Nat → Nat → Nat → Int64) (Rf : Nat → Nat → Nat → Option (Nat × Nat)) (X : Nat × (Nat → Nat) × (Nat → Nat → Nat)), E.2.2.2.2.2.1 ≤ i + 6 * k → i ≤ E.2.2.2.2.2.1 → 2 * k ≤ mc → 200 * k ≤ ms → hs_CR G I Lg Rf X → hs_MR G I Lg → hs_gok G → hg_WP l E (d + 23) Y_L_law mc ms 18 [some (.ref (hg_ex E 0)), some (.ref (hg_ad E 0 0)), some (.ref (hg_ad E 21 0)), some (.int (nI i))] [] (I, Lg, Rf, X) (hg_i (fun v _ => v = 1)) := by
  intro k
  induction k with
  | zero =>
    intro i mc ms G I Lg Rf X hk hi hmc hms hR0 hM0 hG
    have hX := hR0.cX
    have hcmp : ¬ nI i ≤ nI E.2.2.2.2.2.1 - 6 := Int32.not_le.mpr (Int32.lt_iff_toInt_lt.mpr (by rw [show nI E.2.2.2.2.2.1 - 6 = nI E.2.2.2.2.2.1 - nI 6 from rfl, pk_sub_toInt (by omega) (by decide), nI_toInt (by omega)]; omega))
    refine hg_iload3 d_L_law_18 ?_
    refine hg_aload0 d_L_law_19 ?_
    refine hg_alenT d_L_law_20 (fun s h => hx_scr h) ?_
    refine hg_bipush (v := 6) d_L_law_21 (by decide) ?_
    refine hg_isub d_L_law_23 ?_
    refine hg_icmp_gt (tgt := 1237) d_L_law_24 (by decide) (fun h_1 => ?_) (fun h_1 => absurd (Int32.not_le.mp hcmp) h_1)
    refine hg_iconst (v := 1) d_L_law_1237 (by decide) ?_
    refine hg_ireturn d_L_law_1238 rfl (by decide) ?_
    rfl
  | succ k ih =>
    intro i mc ms G I Lg Rf X hk hi hmc hms hR0 hM0 hG
    have hX := hR0.cX
    refine hg_iload3 d_L_law_18 ?_
    refine hg_aload0 d_L_law_19 ?_
    refine hg_alenT d_L_law_20 (fun s h => hx_scr h) ?_
    refine hg_bipush (v := 6) d_L_law_21 (by decide) ?_
    refine hg_isub d_L_law_23 ?_
    refine hg_icmp_gt (tgt := 1237) d_L_law_24 (by decide) (fun hcmp => ?_) (fun hcmp => ?_)
    · refine hg_iconst (v := 1) d_L_law_1237 (by decide) ?_
      refine hg_ireturn d_L_law_1238 rfl (by decide) ?_
      rfl
    · have hi6 : i + 6 ≤ E.2.2.2.2.2.1 := by
        have h : (nI i).toInt ≤ (nI E.2.2.2.2.2.1 - nI 6).toInt := Int32.le_iff_toInt_le.mp (Int32.not_lt.mp hcmp)
        rw [pk_sub_toInt (by omega) (by decide), nI_toInt (by omega)] at h; omega
      refine hg_aload0 d_L_law_27 ?_
      refine hg_iload3 d_L_law_28 ?_
      refine hg_ialdT_n (j := i) d_L_law_29 (fun s h => hx_scr h) (by omega) (by omega) ?_
      refine hg_bipush (v := 31) d_L_law_30 (by decide) ?_
      refine hg_iand d_L_law_32 ?_
      obtain ⟨j, hj, ej⟩ := pk_andE (E.2.2.2.2.2.2 i) (m := 31) 5 rfl
      refine hg_eq1 (y := nI j) ej ?_
      have hj : j < 32 := hj
      have hK : ∀ (mc2 ms2 : Nat), 2 * k ≤ mc2 → 200 * k ≤ ms2 → ∀ (G' : hs_G) (I' : Nat → Nat → Nat → Int32) (Lg' : Nat → Nat → Nat → Int64) (Rf' : Nat → Nat → Nat → Option (Nat × Nat)) (X' : Nat × (Nat → Nat) × (Nat → Nat → Nat)), hs_CR G' I' Lg' Rf' X' → hs_MR G' I' Lg' → hs_gok G' → hg_WP l E (d + 23) Y_L_law mc2 ms2 1231 [some (.ref (hg_ex E 0)), some (.ref (hg_ad E 0 0)), some (.ref (hg_ad E 21 0)), some (.int (nI i))] [] (I', Lg', Rf', X') (hg_i (fun v _ => v = 1)) := by
        intro mc2 ms2 h1 h2 G' I' Lg' Rf' X' a b c
        refine hg_iinc3 (v := nI (i + 6)) d_L_law_1231 rfl (nI_add _ _) ?_
        refine hg_goto (tgt := 18) d_L_law_1234 (by decide) ?_
        exact ih (i + 6) mc2 ms2 G' I' Lg' Rf' X' (by omega) hi6 h1 h2 a b c
      have h32 : j = 0 ∨ j = 1 ∨ j = 2 ∨ j = 3 ∨ j = 4 ∨ j = 5 ∨ j = 6 ∨ j = 7 ∨ j = 8 ∨ j = 9 ∨ j = 10 ∨ j = 11 ∨ j = 12 ∨ j = 13 ∨ j = 14 ∨ j = 15 ∨ j = 16 ∨ j = 17 ∨ j = 18 ∨ j = 19 ∨ j = 20 ∨ j = 21 ∨ j = 22 ∨ j = 23 ∨ j = 24 ∨ j = 25 ∨ j = 26 ∨ j = 27 ∨ j = 28 ∨ j = 29 ∨ j = 30 ∨ j = 31 := by omega
      rcases h32 with rfl | rfl | rfl | rfl | rfl | rfl | rfl | rfl | rfl | rfl | rfl | rfl | rfl | rfl | rfl | rfl | rfl | rfl | rfl | rfl | rfl | rfl | rfl | rfl | rfl | rfl | rfl | rfl | rfl | rfl | rfl | rfl
      · refine hg_tabI (off := 143) (tgt := 176) d_L_law_33 (by decide) (by decide) rfl (by decide) ?_
        exact m_L_c0 hR0 hM0 hG hi6 hN (hK _ _ (by omega) (by omega))
      · refine hg_tabI (off := 186) (tgt := 219) d_L_law_33 (by decide) (by decide) rfl (by decide) ?_
        exact m_L_c1 hR0 hM0 hG hi6 hN (hK _ _ (by omega) (by omega))
      · refine hg_tabI (off := 219) (tgt := 252) d_L_law_33 (by decide) (by decide) rfl (by decide) ?_
        exact m_L_c2 hR0 hM0 hG hi6 hN (hK _ _ (by omega) (by omega))
      · refine hg_tabI (off := 262) (tgt := 295) d_L_law_33 (by decide) (by decide) rfl (by decide) ?_
        exact m_L_c3 hR0 hM0 hG hi6 hN (hK _ _ (by omega) (by omega))
      · refine hg_tabI (off := 311) (tgt := 344) d_L_law_33 (by decide) (by decide) rfl (by decide) ?_
        exact m_L_c4 hR0 hM0 hG hi6 hN (hK _ _ (by omega) (by omega))
      · refine hg_tabI (off := 344) (tgt := 377) d_L_law_33 (by decide) (by decide) rfl (by decide) ?_
        exact m_L_c5 hR0 hM0 hG hi6 hN (hK _ _ (by omega) (by omega))
      · refine hg_tabI (off := 387) (tgt := 420) d_L_law_33 (by decide) (by decide) rfl (by decide) ?_
        exact m_L_c6 hR0 hM0 hG hi6 hN (hK _ _ (by omega) (by omega))
      · refine hg_tabI (off := 410) (tgt := 443) d_L_law_33 (by decide) (by decide) rfl (by decide) ?_
        exact m_L_c7 hR0 hM0 hG hi6 hN (by omega) (by omega) (hK _ _ (by omega) (by omega))
      · refine hg_tabI (off := 423) (tgt := 456) d_L_law_33 (by decide) (by decide) rfl (by decide) ?_
        exact m_L_c8 hR0 hM0 hG hi6 hN (hK _ _ (by omega) (by omega))
      · refine hg_tabI (off := 446) (tgt := 479) d_L_law_33 (by decide) (by decide) rfl (by decide) ?_
        exact m_L_c9 hR0 hM0 hG hi6 hN (hK _ _ (by omega) (by omega))
      · refine hg_tabI (off := 469) (tgt := 502) d_L_law_33 (by decide) (by decide) rfl (by decide) ?_
        exact m_L_c10 hR0 hM0 hG hi6 hN (hK _ _ (by omega) (by omega))
      · refine hg_tabI (off := 502) (tgt := 535) d_L_law_33 (by decide) (by decide) rfl (by decide) ?_
        exact m_L_c11 hR0 hM0 hG hi6 hN (hK _ _ (by omega) (by omega))
      · refine hg_tabI (off := 525) (tgt := 558) d_L_law_33 (by decide) (by decide) rfl (by decide) ?_
        exact m_L_c12 hR0 hM0 hG hi6 hN (hK _ _ (by omega) (by omega))
      · refine hg_tabI (off := 558) (tgt := 591) d_L_law_33 (by decide) (by decide) rfl (by decide) ?_
        exact m_L_c13 hR0 hM0 hG hi6 hN (hK _ _ (by omega) (by omega))
      · refine hg_tabI (off := 591) (tgt := 624) d_L_law_33 (by decide) (by decide) rfl (by decide) ?_
        exact m_L_c14 hR0 hM0 hG hi6 hN (hK _ _ (by omega) (by omega))
      · refine hg_tabI (off := 634) (tgt := 667) d_L_law_33 (by decide) (by decide) rfl (by decide) ?_
        exact m_L_c15 hR0 hM0 hG hi6 hN (hK _ _ (by omega) (by omega))
      · refine hg_tabI (off := 668) (tgt := 701) d_L_law_33 (by decide) (by decide) rfl (by decide) ?_
        exact m_L_c16 hR0 hM0 hG hi6 hN (hK _ _ (by omega) (by omega))
      · refine hg_tabI (off := 702) (tgt := 735) d_L_law_33 (by decide) (by decide) rfl (by decide) ?_
        exact m_L_c17 hR0 hM0 hG hi6 hN (hK _ _ (by omega) (by omega))
      · refine hg_tabI (off := 735) (tgt := 768) d_L_law_33 (by decide) (by decide) rfl (by decide) ?_
        exact m_L_c18 hR0 hM0 hG hi6 hN (hK _ _ (by omega) (by omega))
      · refine hg_tabI (off := 758) (tgt := 791) d_L_law_33 (by decide) (by decide) rfl (by decide) ?_
        exact m_L_c19 hR0 hM0 hG hi6 hN (hK _ _ (by omega) (by omega))
      · refine hg_tabI (off := 791) (tgt := 824) d_L_law_33 (by decide) (by decide) rfl (by decide) ?_
        exact m_L_c20 hR0 hM0 hG hi6 hN (hK _ _ (by omega) (by omega))
      · refine hg_tabI (off := 804) (tgt := 837) d_L_law_33 (by decide) (by decide) rfl (by decide) ?_
        exact m_L_c21 hR0 hM0 hG hi6 hN (hK _ _ (by omega) (by omega))
      · refine hg_tabI (off := 837) (tgt := 870) d_L_law_33 (by decide) (by decide) rfl (by decide) ?_
        exact m_L_c22 hR0 hM0 hG hi6 hN (hK _ _ (by omega) (by omega))
      · refine hg_tabI (off := 850) (tgt := 883) d_L_law_33 (by decide) (by decide) rfl (by decide) ?_
        exact m_L_c23 hR0 hM0 hG hi6 hN (hK _ _ (by omega) (by omega))
      · refine hg_tabI (off := 863) (tgt := 896) d_L_law_33 (by decide) (by decide) rfl (by decide) ?_
        exact m_L_c24 hR0 hM0 hG hi6 hN (hK _ _ (by omega) (by omega))
      · refine hg_tabI (off := 906) (tgt := 939) d_L_law_33 (by decide) (by decide) rfl (by decide) ?_
        exact m_L_c25 hR0 hM0 hG hi6 hN (hK _ _ (by omega) (by omega))
      · refine hg_tabI (off := 929) (tgt := 962) d_L_law_33 (by decide) (by decide) rfl (by decide) ?_
        exact m_L_c26 hR0 hM0 hG hi6 hN (hK _ _ (by omega) (by omega))
      · refine hg_tabI (off := 962) (tgt := 995) d_L_law_33 (by decide) (by decide) rfl (by decide) ?_
        exact m_L_c27 hR0 hM0 hG hi6 hN (hK _ _ (by omega) (by omega))
      · refine hg_tabI (off := 985) (tgt := 1018) d_L_law_33 (by decide) (by decide) rfl (by decide) ?_
        exact m_L_c28 hR0 hM0 hG hi6 hN (hK _ _ (by omega) (by omega))
      · refine hg_tabI (off := 1028) (tgt := 1061) d_L_law_33 (by decide) (by decide) rfl (by decide) ?_
        exact m_L_c29 hR0 hM0 hG hi6 hN (hK _ _ (by omega) (by omega))
      · refine hg_tabI (off := 1101) (tgt := 1134) d_L_law_33 (by decide) (by decide) rfl (by decide) ?_
        exact m_L_c30 hR0 hM0 hG hi6 hN (hK _ _ (by omega) (by omega))
      · refine hg_tabI (off := 1135) (tgt := 1168) d_L_law_33 (by decide) (by decide) rfl (by decide) ?_
        exact m_L_c31 hR0 hM0 hG hi6 hN (hK _ _ (by omega) (by omega))
end M52
