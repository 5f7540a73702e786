/-! the model: its cells hold a whole street -/
def hs_MG (σ : hs_S) (a0 a2 a4 : hs_L) (I : Nat → Nat → Nat → Int32) : Prop := hs_MS σ I ∧ hs_ML 30 16 17 hs_y0 a0 I ∧ hs_ML 33 18 19 hs_y1 a2 I ∧ hs_ML 36 20 21 hs_y2 a4 I
def hs_Mp (t : Nat) (a : hs_P) (I : Nat → Nat → Nat → Int32) (Lg : Nat → Nat → Nat → Int64) : Prop := I 22 26 t = a.1 ∧ I 22 27 t = nI a.2.1 ∧ ∀ j, j < 60 → Lg 23 0 (60 * t + j) = a.2.2 j
/-- all but the street and what is told of it -/
def hs_Mx (G : hs_G) (I : Nat → Nat → Nat → Int32) (Lg : Nat → Nat → Nat → Int64) : Prop := I 21 0 41 = (if gH G = true then 1 else 0) ∧ (gH G = true → hs_MI (gI G) (gL G 1) (gL G 3) (gL G 5) (I 22 23)) ∧ (I 21 0 14 = nI (gX G).1 ∧ ∀ j, j < (gX G).1 → I 22 9 j = (gX G).2 j) ∧ I 21 0 20 = nI (gT G) ∧
  (I 21 0 39 = nI (gK G).1 ∧ ∀ j, j < 20 → I 22 22 j = (gK G).2 j) ∧ (∀ t, t < 6 → hs_Mp t (gP G t) I Lg) ∧ hs_MT (gT G) (gW G) I
def hs_MR (G : hs_G) (I : Nat → Nat → Nat → Int32) (Lg : Nat → Nat → Nat → Int64) : Prop := hs_MG (gN G) (gL G 0) (gL G 2) (gL G 4) I ∧ hs_Mx G I Lg
/-- what a call of the model's answers, and leaves -/
def hs_MP {α : Type} (v r : α) (G : hs_G) (I : Nat → Nat → Nat → Int32) (Lg : Nat → Nat → Nat → Int64) (Rf : Nat → Nat → Nat → Option (Nat × Nat)) (X : Nat × (Nat → Nat) × (Nat → Nat → Nat)) (M' : hg_M) : Prop := v = r ∧ ∃ (I' : Nat → Nat → Nat → Int32) (Lg' : Nat → Nat → Nat → Int64), M' = (I', Lg', Rf, X) ∧ hs_MR G I' Lg' ∧ (∀ k, k < 21 → I' k = I k) ∧ ∀ k, k < 21 → Lg' k = Lg k
/-- only the street's cells changed, the stack -/
def hm_n (I' I : Nat → Nat → Nat → Int32) : Prop := (∀ q, q ≠ 21 → q ≠ 22 → q ≠ 24 → I' q = I q) ∧ (∀ j, ¬ (j = 0 ∨ (10 ≤ j ∧ j ≤ 13) ∨ j = 21) → I' 21 0 j = I 21 0 j) ∧ ∀ r, 9 ≤ r → I' 22 r = I 22 r
/-- scratch and what again lays back -/
def hm_s (I' I : Nat → Nat → Nat → Int32) : Prop := (∀ q, q < 21 → I' q = I q) ∧ (∀ j, j = 14 ∨ j = 20 ∨ j = 28 ∨ j = 39 ∨ j = 41 → I' 21 0 j = I 21 0 j) ∧ ∀ r, (9 ≤ r ∧ r ≤ 15) ∨ (22 ≤ r ∧ r ≤ 23) ∨ (26 ≤ r ∧ r ≤ 27) → I' 22 r = I 22 r
section M33
variable {l : Launch} {E : hg_E} {d T : Nat}
variable {I : Nat → Nat → Nat → Int32} {Lg : Nat → Nat → Nat → Int64} {Rf : Nat → Nat → Nat → Option (Nat × Nat)} {X : Nat × (Nat → Nat) × (Nat → Nat → Nat)}
variable {I' I1 : Nat → Nat → Nat → Int32} {Lg' : Nat → Nat → Nat → Int64} {σ σ2 : hs_S} {a0 a2 a4 : hs_L} {G : hs_G}
theorem hm_n.rf : hm_n I I := ⟨fun _ _ _ _ => rfl, fun _ _ => rfl, fun _ _ => rfl⟩
theorem hm_n.tr (h : hm_n I' I1) (h2 : hm_n I1 I) : hm_n I' I := ⟨fun q a b c => (h.1 q a b c).trans (h2.1 q a b c), fun j a => (h.2.1 j a).trans (h2.2.1 j a), fun j a => (h.2.2 j a).trans (h2.2.2 j a)⟩
theorem hm_t.n (h : hm_t I' I) : hm_n I' I := ⟨h.1, fun j hj => h.2.1 j (by omega), fun r hr => h.2.2 r (by omega)⟩
theorem hm_n.u21 (h : hm_n I' I) {j : Nat} {x : Int32} (hj : j = 0 ∨ (10 ≤ j ∧ j ≤ 13) ∨ j = 21) : hm_n (hg_u3 I' 21 0 j x) I := ⟨fun q a b c => by rw [← h.1 q a b c]; funext y z; exact hg_u3k (fun v => a v.1), fun k hk => by rw [← h.2.1 k hk]; unfold hg_u3; rw [if_neg (fun v => hk (by rw [v.2.2]; exact hj))], fun r hr => by rw [← h.2.2 r hr]; funext z; exact hg_u3k (by omega)⟩
theorem hm_n.u22 (h : hm_n I' I) {r j : Nat} {x : Int32} (hr : r < 9) : hm_n (hg_u3 I' 22 r j x) I := ⟨fun q a b c => by rw [← h.1 q a b c]; funext y z; exact hg_u3k (fun v => b v.1), fun k hk => by rw [← h.2.1 k hk]; exact hg_u3k (by omega), fun r2 hr2 => by rw [← h.2.2 r2 hr2]; funext z; exact hg_u3k (by omega)⟩
theorem hm_s.rf : hm_s I I := ⟨fun _ _ => rfl, fun _ _ => rfl, fun _ _ => rfl⟩
theorem hm_s.tr (h : hm_s I' I1) (h2 : hm_s I1 I) : hm_s I' I := ⟨fun q a => (h.1 q a).trans (h2.1 q a), fun j a => (h.2.1 j a).trans (h2.2.1 j a), fun j a => (h.2.2 j a).trans (h2.2.2 j a)⟩
theorem hm_n.s (h : hm_n I' I) : hm_s I' I := ⟨fun q hq => h.1 q (by omega) (by omega) (by omega), fun j hj => h.2.1 j (by omega), fun r hr => h.2.2 r (by omega)⟩
theorem hm_t.s (h : hm_t I' I) : hm_s I' I := h.n.s
theorem hm_e.s (h : hm_e I' I) : hm_s I' I := h.t.s
theorem hm_k.s (h : hm_k I' I) : hm_s I' I := ⟨fun q hq => h.1 q (by omega) (by omega), fun j hj => h.2.1 j (by omega), fun r hr => h.2.2 r (by omega)⟩
theorem hk_r.s {r : Nat} (h : hk_r r I' I) (hr : r = 24 ∨ r = 25) : hm_s I' I := ⟨fun q hq => funext fun i => h q i (by omega), fun j hj => by rw [h 21 0 (by omega)], fun r2 hr2 => h 22 r2 (by omega)⟩
theorem hs_ML.kp {c r1 r2 : Nat} {y : Int32 → Int32 → Int32} {a : hs_L} (h : hs_ML c r1 r2 y a I) (e1 : I' 21 0 c = I 21 0 c) (e2 : I' 22 r1 = I 22 r1) (e3 : I' 22 r2 = I 22 r2) : hs_ML c r1 r2 y a I' := by
  unfold hs_ML at h ⊢; rw [e1, e2, e3]; exact h
theorem hs_MG.n (h : hs_MG σ a0 a2 a4 I) (hS : hs_MS σ2 I') (e : hm_n I' I) : hs_MG σ2 a0 a2 a4 I' := ⟨hS, h.2.1.kp (e.2.1 _ (by omega)) (e.2.2 _ (by omega)) (e.2.2 _ (by omega)), h.2.2.1.kp (e.2.1 _ (by omega)) (e.2.2 _ (by omega)) (e.2.2 _ (by omega)), h.2.2.2.kp (e.2.1 _ (by omega)) (e.2.2 _ (by omega)) (e.2.2 _ (by omega))⟩
theorem hs_MG.e (h : hs_MG σ a0 a2 a4 I) (e : hm_e I' I) : hs_MG σ a0 a2 a4 I' := h.n (h.1.e e) e.t.n
theorem hs_MG.r {r : Nat} (h : hs_MG σ a0 a2 a4 I) (e : hk_r r I' I) (hr : 22 ≤ r) : hs_MG σ a0 a2 a4 I' := ⟨h.1.kp (fun j _ => by rw [e 21 0 (by omega)]) (fun q _ => e 22 q (by omega)), h.2.1.kp (by rw [e 21 0 (by omega)]) (e 22 _ (by omega)) (e 22 _ (by omega)), h.2.2.1.kp (by rw [e 21 0 (by omega)]) (e 22 _ (by omega)) (e 22 _ (by omega)), h.2.2.2.kp (by rw [e 21 0 (by omega)]) (e 22 _ (by omega)) (e 22 _ (by omega))⟩
theorem hs_Mp.kp {t : Nat} {a : hs_P} (h : hs_Mp t a I Lg) (e1 : I' 22 26 = I 22 26) (e2 : I' 22 27 = I 22 27) (e3 : Lg' 23 = Lg 23) : hs_Mp t a I' Lg' := by
  unfold hs_Mp at h ⊢; rw [e1, e2, e3]; exact h
theorem hs_MT.s {T : Nat} {tw : hs_W} (h : hs_MT T tw I) (e : hm_s I' I) : hs_MT T tw I' := by
  unfold hs_MT hs_Mt at h ⊢; rw [e.2.1 28 (by omega), e.2.2 10 (by omega), e.2.2 11 (by omega), e.2.2 12 (by omega), e.2.2 13 (by omega), e.2.2 14 (by omega), e.2.2 15 (by omega)]; exact h
theorem hs_Mx.s (h : hs_Mx G I Lg) (e : hm_s I' I) : hs_Mx G I' Lg := by
  obtain ⟨h1, h2, h3, h4, h5, h6, h7⟩ := h
  exact ⟨by rw [e.2.1 41 (by omega)]; exact h1, by rw [e.2.2 23 (by omega)]; exact h2, by rw [e.2.1 14 (by omega), e.2.2 9 (by omega)]; exact h3, by rw [e.2.1 20 (by omega)]; exact h4, by rw [e.2.1 39 (by omega), e.2.2 22 (by omega)]; exact h5, fun t ht => (h6 t ht).kp (e.2.2 26 (by omega)) (e.2.2 27 (by omega)) rfl, h7.s e⟩
theorem hs_MG.kp (h : hs_MG σ a0 a2 a4 I) (e1 : ∀ j, j = 0 ∨ (10 ≤ j ∧ j ≤ 13) ∨ j = 21 ∨ j = 30 ∨ j = 33 ∨ j = 36 → I' 21 0 j = I 21 0 j) (e2 : ∀ r, r ≤ 8 ∨ (16 ≤ r ∧ r ≤ 21) → I' 22 r = I 22 r) : hs_MG σ a0 a2 a4 I' := ⟨h.1.kp (fun j hj => e1 j (by omega)) (fun r hr => e2 r (by omega)), h.2.1.kp (e1 _ (by omega)) (e2 _ (by omega)) (e2 _ (by omega)), h.2.2.1.kp (e1 _ (by omega)) (e2 _ (by omega)) (e2 _ (by omega)), h.2.2.2.kp (e1 _ (by omega)) (e2 _ (by omega)) (e2 _ (by omega))⟩
theorem hs_MT.kp {T : Nat} {tw : hs_W} (h : hs_MT T tw I) (e1 : I' 21 0 28 = I 21 0 28) (e2 : ∀ r, 10 ≤ r → r ≤ 15 → I' 22 r = I 22 r) : hs_MT T tw I' := by
  unfold hs_MT hs_Mt at h ⊢; rw [e1, e2 10 (by omega) (by omega), e2 11 (by omega) (by omega), e2 12 (by omega) (by omega), e2 13 (by omega) (by omega), e2 14 (by omega) (by omega), e2 15 (by omega) (by omega)]; exact h
theorem hs_MR.tx (h : hs_MR G I Lg) {x : Nat × (Nat → Int32)} (e1 : ∀ r, r ≠ 9 → I' 22 r = I 22 r) (e2 : ∀ j, j ≠ 14 → I' 21 0 j = I 21 0 j) (hx : I' 21 0 14 = nI x.1 ∧ ∀ j, j < x.1 → I' 22 9 j = x.2 j) : hs_MR (gsX G x) I' Lg := by
  obtain ⟨g, h1, h2, h3, h4, h5, h6, h7⟩ := h
  exact ⟨g.kp (fun j _ => e2 j (by omega)) (fun r _ => e1 r (by omega)), by rw [e2 41 (by omega)]; exact h1, by rw [e1 23 (by omega)]; exact h2, hx, by rw [e2 20 (by omega)]; exact h4, by rw [e2 39 (by omega), e1 22 (by omega)]; exact h5, fun t ht => (h6 t ht).kp (e1 26 (by omega)) (e1 27 (by omega)) rfl, h7.kp (e2 28 (by omega)) (fun r _ _ => e1 r (by omega))⟩
theorem hs_MR.K (h : hs_MR G I Lg) {x : tk_S} (e1 : ∀ r, r ≠ 22 → I' 22 r = I 22 r) (e2 : ∀ j, j ≠ 39 → I' 21 0 j = I 21 0 j) (hx : I' 21 0 39 = nI x.1 ∧ ∀ j, j < 20 → I' 22 22 j = x.2 j) : hs_MR (gsK G x) I' Lg := by
  obtain ⟨g, h1, h2, h3, h4, h5, h6, h7⟩ := h
  exact ⟨g.kp (fun j _ => e2 j (by omega)) (fun r _ => e1 r (by omega)), by rw [e2 41 (by omega)]; exact h1, by rw [e1 23 (by omega)]; exact h2, by rw [e2 14 (by omega), e1 9 (by omega)]; exact h3, by rw [e2 20 (by omega)]; exact h4, hx, fun t ht => (h6 t ht).kp (e1 26 (by omega)) (e1 27 (by omega)) rfl, h7.kp (e2 28 (by omega)) (fun r _ _ => e1 r (by omega))⟩
theorem hs_MR.P (h : hs_MR G I Lg) {t : Nat} {a : hs_P} (e1 : ∀ r, r ≠ 26 → r ≠ 27 → I' 22 r = I 22 r) (e2 : I' 21 = I 21) (e3 : ∀ u, u < 6 → u ≠ t → hs_Mp u (gP G u) I' Lg') (hx : hs_Mp t a I' Lg') : hs_MR (gsP G t a) I' Lg' := by
  obtain ⟨g, h1, h2, h3, h4, h5, h6, h7⟩ := h
  refine ⟨g.kp (fun j _ => by rw [e2]) (fun r _ => e1 r (by omega) (by omega)), by rw [e2]; exact h1, by rw [e1 23 (by omega) (by omega)]; exact h2, by rw [e2, e1 9 (by omega) (by omega)]; exact h3, by rw [e2]; exact h4, by rw [e2, e1 22 (by omega) (by omega)]; exact h5, fun u hu => ?_, h7.kp (by rw [e2]) (fun r _ _ => e1 r (by omega) (by omega))⟩
  show hs_Mp u (if u = t then a else gP G u) I' Lg'
  by_cases z : u = t
  · subst z; rw [if_pos rfl]; exact hx
  · rw [if_neg z]; exact e3 u hu z
theorem hs_MR.L0 (h : hs_MR G I Lg) {a : hs_L} (e1 : ∀ r, r ≠ 16 → r ≠ 17 → I' 22 r = I 22 r) (e2 : ∀ j, j ≠ 30 → I' 21 0 j = I 21 0 j) (hx : hs_ML 30 16 17 hs_y0 a I') : hs_MR (gsL G 0 a) I' Lg := by
  obtain ⟨g, h1, h2, h3, h4, h5, h6, h7⟩ := h
  exact ⟨⟨g.1.kp (fun j _ => e2 j (by omega)) (fun r _ => e1 r (by omega) (by omega)), hx, g.2.2.1.kp (e2 _ (by omega)) (e1 _ (by omega) (by omega)) (e1 _ (by omega) (by omega)), g.2.2.2.kp (e2 _ (by omega)) (e1 _ (by omega) (by omega)) (e1 _ (by omega) (by omega))⟩, by rw [e2 41 (by omega)]; exact h1, by rw [e1 23 (by omega) (by omega)]; exact h2, by rw [e2 14 (by omega), e1 9 (by omega) (by omega)]; exact h3, by rw [e2 20 (by omega)]; exact h4, by rw [e2 39 (by omega), e1 22 (by omega) (by omega)]; exact h5, fun t ht => (h6 t ht).kp (e1 26 (by omega) (by omega)) (e1 27 (by omega) (by omega)) rfl, h7.kp (e2 28 (by omega)) (fun r _ _ => e1 r (by omega) (by omega))⟩
theorem hs_MR.L2 (h : hs_MR G I Lg) {a : hs_L} (e1 : ∀ r, r ≠ 18 → r ≠ 19 → I' 22 r = I 22 r) (e2 : ∀ j, j ≠ 33 → I' 21 0 j = I 21 0 j) (hx : hs_ML 33 18 19 hs_y1 a I') : hs_MR (gsL G 2 a) I' Lg := by
  obtain ⟨g, h1, h2, h3, h4, h5, h6, h7⟩ := h
  exact ⟨⟨g.1.kp (fun j _ => e2 j (by omega)) (fun r _ => e1 r (by omega) (by omega)), g.2.1.kp (e2 _ (by omega)) (e1 _ (by omega) (by omega)) (e1 _ (by omega) (by omega)), hx, g.2.2.2.kp (e2 _ (by omega)) (e1 _ (by omega) (by omega)) (e1 _ (by omega) (by omega))⟩, by rw [e2 41 (by omega)]; exact h1, by rw [e1 23 (by omega) (by omega)]; exact h2, by rw [e2 14 (by omega), e1 9 (by omega) (by omega)]; exact h3, by rw [e2 20 (by omega)]; exact h4, by rw [e2 39 (by omega), e1 22 (by omega) (by omega)]; exact h5, fun t ht => (h6 t ht).kp (e1 26 (by omega) (by omega)) (e1 27 (by omega) (by omega)) rfl, h7.kp (e2 28 (by omega)) (fun r _ _ => e1 r (by omega) (by omega))⟩
theorem hs_MR.L4 (h : hs_MR G I Lg) {a : hs_L} (e1 : ∀ r, r ≠ 20 → r ≠ 21 → I' 22 r = I 22 r) (e2 : ∀ j, j ≠ 36 → I' 21 0 j = I 21 0 j) (hx : hs_ML 36 20 21 hs_y2 a I') : hs_MR (gsL G 4 a) I' Lg := by
  obtain ⟨g, h1, h2, h3, h4, h5, h6, h7⟩ := h
  exact ⟨⟨g.1.kp (fun j _ => e2 j (by omega)) (fun r _ => e1 r (by omega) (by omega)), g.2.1.kp (e2 _ (by omega)) (e1 _ (by omega) (by omega)) (e1 _ (by omega) (by omega)), g.2.2.1.kp (e2 _ (by omega)) (e1 _ (by omega) (by omega)) (e1 _ (by omega) (by omega)), hx⟩, by rw [e2 41 (by omega)]; exact h1, by rw [e1 23 (by omega) (by omega)]; exact h2, by rw [e2 14 (by omega), e1 9 (by omega) (by omega)]; exact h3, by rw [e2 20 (by omega)]; exact h4, by rw [e2 39 (by omega), e1 22 (by omega) (by omega)]; exact h5, fun t ht => (h6 t ht).kp (e1 26 (by omega) (by omega)) (e1 27 (by omega) (by omega)) rfl, h7.kp (e2 28 (by omega)) (fun r _ _ => e1 r (by omega) (by omega))⟩
/-- the street alone is another -/
theorem hs_MR.N (h : hs_MR G I Lg) (hS : hs_MS σ2 I') (e : hm_n I' I) : hs_MR (gsN G σ2) I' Lg := ⟨h.1.n hS e, h.2.s e.s⟩
theorem hs_MR.Z (h : hs_MR G I Lg) (hS : hs_MG (gN G) (gL G 0) (gL G 2) (gL G 4) I') (e : hm_s I' I) : hs_MR G I' Lg := ⟨hS, h.2.s e⟩
theorem hm_s.lo (h : hm_s I' I) : ∀ k, k < 21 → I' k = I k := h.1
theorem hs_MI_of (hM : hs_MG σ a0 a2 a4 I) (hn : hs_n σ ≤ 6) (h0 : a0.1 ≤ 5) (h2 : a2.1 ≤ 10) (h4 : a4.1 ≤ 8) {A : Nat → Int32} (hP : hk_P 6 24 5 10 8 A I) (hF : hk_F A I) : hs_MI σ a0 a2 a4 A := by
  obtain ⟨⟨m1, m2, m3, m4, m5, m6, m7, m8, m9⟩, l0, l2, l4⟩ := hM
  obtain ⟨p1, p2, p3, p4, p5⟩ := hP
  obtain ⟨f1, f2, f3, f4, f5, f6, f7, f8, f9⟩ := hF
  refine ⟨fun f p hf hp => ?_, fun p hp => ?_, fun p j hp hj => ?_, fun i hi => ?_, fun i hi => ?_, fun i hi => ?_, f1.trans m1, f2.trans m2, f3.trans m3, f4.trans m4, f5.trans m5, f6.trans l0.1, f7.trans l2.1, f8.trans l4.1, f9.trans m6⟩
  · obtain ⟨q0, q1, q2, q3, q4, q5, q6, q7⟩ := p1 p (by omega)
    have h7 : f = 0 ∨ f = 1 ∨ f = 2 ∨ f = 3 ∨ f = 4 ∨ f = 5 ∨ f = 6 := by omega
    rcases h7 with rfl | rfl | rfl | rfl | rfl | rfl | rfl
    · rw [show 6 * 0 + p = p by omega, q0]; exact m8 p 0 hp (by decide)
    · exact q1.trans (m8 p 1 hp (by decide))
    · exact q2.trans (m8 p 2 hp (by decide))
    · exact q3.trans (m8 p 3 hp (by decide))
    · exact q4.trans (m8 p 4 hp (by decide))
    · exact q5.trans (m8 p 5 hp (by decide))
    · exact q6.trans (m8 p 6 hp (by decide))
  · exact (p1 p (by omega)).2.2.2.2.2.2.2.trans (m7 p hp)
  · exact (p2 (4 * p + j) (by omega)).trans (m9 p j hp hj)
  · exact ⟨(p3 i (by omega)).1.trans (l0.2 i hi).1, (p3 i (by omega)).2.trans (l0.2 i hi).2⟩
  · exact ⟨(p4 i (by omega)).1.trans (l2.2 i hi).1, (p4 i (by omega)).2.trans (l2.2 i hi).2⟩
  · exact ⟨(p5 i (by omega)).1.trans (l4.2 i hi).1, (p5 i (by omega)).2.trans (l4.2 i hi).2⟩
theorem hs_MG_of {A : Nat → Int32} (hM : hs_MI σ a0 a2 a4 A) (hn : hs_n σ ≤ 6) (h0 : a0.1 ≤ 5) (h2 : a2.1 ≤ 10) (h4 : a4.1 ≤ 8) (hP : hk_P 6 24 5 10 8 A I) (hF : hk_F A I) : hs_MG σ a0 a2 a4 I := by
  obtain ⟨m1, m2, m3, m4, m5, m6, g1, g2, g3, g4, g5, g6, g7, g8, g9⟩ := hM
  obtain ⟨p1, p2, p3, p4, p5⟩ := hP
  obtain ⟨f1, f2, f3, f4, f5, f6, f7, f8, f9⟩ := hF
  refine ⟨⟨f1.symm.trans g1, f2.symm.trans g2, f3.symm.trans g3, f4.symm.trans g4, f5.symm.trans g5, f9.symm.trans g9, fun p hp => ?_, fun p f hp hf => ?_, fun p j hp hj => ?_⟩, ⟨f6.symm.trans g6, fun i hi => ?_⟩, ⟨f7.symm.trans g7, fun i hi => ?_⟩, ⟨f8.symm.trans g8, fun i hi => ?_⟩⟩
  · exact (p1 p (by omega)).2.2.2.2.2.2.2.symm.trans (m2 p hp)
  · obtain ⟨q0, q1, q2, q3, q4, q5, q6, q7⟩ := p1 p (by omega)
    have h7 : f = 0 ∨ f = 1 ∨ f = 2 ∨ f = 3 ∨ f = 4 ∨ f = 5 ∨ f = 6 := by omega
    rcases h7 with rfl | rfl | rfl | rfl | rfl | rfl | rfl
    · rw [← q0, ← m1 0 p (by decide) hp, show 6 * 0 + p = p by omega]
    · exact q1.symm.trans (m1 1 p (by decide) hp)
    · exact q2.symm.trans (m1 2 p (by decide) hp)
    · exact q3.symm.trans (m1 3 p (by decide) hp)
    · exact q4.symm.trans (m1 4 p (by decide) hp)
    · exact q5.symm.trans (m1 5 p (by decide) hp)
    · exact q6.symm.trans (m1 6 p (by decide) hp)
  · exact (p2 (4 * p + j) (by omega)).symm.trans (m3 p j hp hj)
  · exact ⟨(p3 i (by omega)).1.symm.trans (m4 i hi).1, (p3 i (by omega)).2.symm.trans (m4 i hi).2⟩
  · exact ⟨(p4 i (by omega)).1.symm.trans (m5 i hi).1, (p4 i (by omega)).2.symm.trans (m5 i hi).2⟩
  · exact ⟨(p5 i (by omega)).1.symm.trans (m6 i hi).1, (p5 i (by omega)).2.symm.trans (m6 i hi).2⟩
def hs_Lb (σ : hs_S) (a0 a2 a4 : hs_L) : Prop := hs_n σ ≤ 6 ∧ a0.1 ≤ 5 ∧ a2.1 ≤ 10 ∧ a4.1 ≤ 8
theorem m_M_keep23_ (hX : hg_XS T X) (hR : hg_SR T Rf) (hM : hs_MG σ a0 a2 a4 I) (hb : hs_Lb σ a0 a2 a4) : hg_MC l E (d + 1) Y_M_keep 0 0 [.ref (hg_ad E 21 0), .ref (hg_ad E 22 23)] (I, Lg, Rf, X) (hg_v (fun M' => ∃ I' : Nat → Nat → Nat → Int32, M' = (I', Lg, Rf, X) ∧ hk_r 23 I' I ∧ hs_MI σ a0 a2 a4 (I' 22 23))) := by
  refine (m_M_keep23 hX hR).imp ?_
  rintro _ _ ⟨rfl, I', e, a, b, c⟩
  exact ⟨rfl, I', e, a, hs_MI_of (hM.r a (by decide)) hb.1 hb.2.1 hb.2.2.1 hb.2.2.2 b c⟩
theorem m_M_again23_ (hX : hg_XS T X) (hR : hg_SR T Rf) (hM : hs_MI σ a0 a2 a4 (I 22 23)) (hb : hs_Lb σ a0 a2 a4) : hg_MC l E (d + 1) Y_M_again 0 0 [.ref (hg_ad E 21 0), .ref (hg_ad E 22 23)] (I, Lg, Rf, X) (hg_v (fun M' => ∃ I' : Nat → Nat → Nat → Int32, M' = (I', Lg, Rf, X) ∧ hs_MG σ a0 a2 a4 I' ∧ hm_k I' I)) := by
  refine (m_M_again23 hX hR).imp ?_
  rintro _ _ ⟨rfl, I', e, a, b, c⟩
  rw [a.2.2 23 (by decide)] at b c
  exact ⟨rfl, I', e, hs_MG_of hM hb.1 hb.2.1 hb.2.2.1 hb.2.2.2 b c, a⟩
theorem m_M_keep24_ (hX : hg_XS T X) (hR : hg_SR T Rf) (hM : hs_MG σ a0 a2 a4 I) (hb : hs_Lb σ a0 a2 a4) : hg_MC l E (d + 1) Y_M_keep 0 0 [.ref (hg_ad E 21 0), .ref (hg_ad E 22 24)] (I, Lg, Rf, X) (hg_v (fun M' => ∃ I' : Nat → Nat → Nat → Int32, M' = (I', Lg, Rf, X) ∧ hk_r 24 I' I ∧ hs_MI σ a0 a2 a4 (I' 22 24))) := by
  refine (m_M_keep24 hX hR).imp ?_
  rintro _ _ ⟨rfl, I', e, a, b, c⟩
  exact ⟨rfl, I', e, a, hs_MI_of (hM.r a (by decide)) hb.1 hb.2.1 hb.2.2.1 hb.2.2.2 b c⟩
theorem m_M_again24_ (hX : hg_XS T X) (hR : hg_SR T Rf) (hM : hs_MI σ a0 a2 a4 (I 22 24)) (hb : hs_Lb σ a0 a2 a4) : hg_MC l E (d + 1) Y_M_again 0 0 [.ref (hg_ad E 21 0), .ref (hg_ad E 22 24)] (I, Lg, Rf, X) (hg_v (fun M' => ∃ I' : Nat → Nat → Nat → Int32, M' = (I', Lg, Rf, X) ∧ hs_MG σ a0 a2 a4 I' ∧ hm_k I' I)) := by
  refine (m_M_again24 hX hR).imp ?_
  rintro _ _ ⟨rfl, I', e, a, b, c⟩
  rw [a.2.2 24 (by decide)] at b c
  exact ⟨rfl, I', e, hs_MG_of hM hb.1 hb.2.1 hb.2.2.1 hb.2.2.2 b c, a⟩
end M33
