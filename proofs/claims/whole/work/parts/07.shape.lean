/-! what stands still once all is made; rows with a place as a number -/
section HG4
variable {l : Launch} {E : hg_E} {d : Nat} {Y : hg_Y} {mc ms pc pc' : Nat} {loc : List (Option Value)} {st : List Value} {M : hg_M} {Q : Option Value → hg_M → Prop}
variable {I : Nat → Nat → Nat → Int32} {Lg : Nat → Nat → Nat → Int64} {Rf : Nat → Nat → Nat → Option (Nat × Nat)} {X : Nat × (Nat → Nat) × (Nat → Nat → Nat)}
def hg_len (k i : Nat) : Nat := match k with
  | 2 => 6 | 4 => 4 | 5 => 6 | 6 => 8 | 8 => ([5, 5, 10, 10, 8, 8] : List Nat).getD i 0 | 9 => ([5, 5, 10, 10, 8, 8] : List Nat).getD i 0 | 11 => 100 | 12 => 100 | 14 => 20 | 15 => 6 | 17 => 60 | 18 => 384
  | 22 => ([6, 6, 6, 6, 6, 6, 6, 24, 6, 100, 6, 61, 61, 61, 61, 800, 5, 5, 10, 10, 8, 8, 20, 128, 128, 384, 6, 6] : List Nat).getD i 0 | 23 => 360 | 24 => 110 | _ => 0
theorem hg_getD_le : ∀ (l : List Nat) (i B : Nat), (∀ x ∈ l, x ≤ B) → l.getD i 0 ≤ B := by
  intro l i B h
  rw [List.getD_eq_getElem?_getD]
  cases e : l[i]? with
  | none => exact Nat.zero_le _
  | some x => exact h x (List.mem_of_getElem? e)
theorem hg_len_le (k i : Nat) : hg_len k i ≤ 1000 := by
  unfold hg_len
  split <;> first | decide | exact hg_getD_le _ _ _ (by decide)
def hg_XS (T : Nat) (X : Nat × (Nat → Nat) × (Nat → Nat → Nat)) : Prop := X.1 = 120 + 2 * T ∧ (∀ k, k ≠ 19 → k ≠ 20 → X.2.1 k = hg_cap k) ∧ X.2.1 19 = T + 1 ∧ X.2.1 20 = T + 1 ∧ ∀ k i, k ≠ 20 → X.2.2 k i = hg_len k i
theorem hg_XS.lt {T k n i : Nat} (h : hg_XS T X) (hk : k ≠ 19 ∧ k ≠ 20) (hn : hg_cap k = n) (hi : i < n) : i < X.2.1 k := by
  rw [h.2.1 k hk.1 hk.2, hn]; exact hi
theorem hg_XS.jn {T k n i j : Nat} (h : hg_XS T X) (hk : k ≠ 20) (hn : hg_len k i = n) (hj : j < n) : j < X.2.2 k i ∧ X.2.2 k i < 2147483648 := by
  rw [h.2.2.2.2 k i hk, hn]
  exact ⟨hj, by have := hg_len_le k i; omega⟩
theorem hg_XS.tw {T t : Nat} (h : hg_XS T X) (ht : t ≤ T) : t < X.2.1 19 := by rw [h.2.2.1]; omega
theorem hg_XS.ts {T t : Nat} (h : hg_XS T X) (ht : t ≤ T) : t < X.2.1 20 := by rw [h.2.2.2.1]; omega
def hg_rD (j : Nat) : Option (Nat × Nat) := match j with
  | 0 => some (1, 0) | 1 => some (1, 1) | 2 => some (1, 2) | 3 => some (7, 0) | 4 => some (7, 1) | 5 => some (7, 2) | 6 => some (7, 3) | 7 => some (7, 4) | 8 => some (7, 5) | 10 => some (10, 0) | 12 => some (13, 0) | 13 => some (15, 0) | 14 => some (18, 0) | _ => none
def hg_rM (j : Nat) : Option (Nat × Nat) := match j with
  | 1 => some (22, 0) | 2 => some (22, 1) | 3 => some (22, 2) | 4 => some (22, 3) | 5 => some (22, 4) | 6 => some (22, 5) | 7 => some (22, 6) | 8 => some (22, 7) | 9 => some (22, 8) | 15 => some (22, 9) | 22 => some (22, 10) | 23 => some (22, 11) | 24 => some (22, 12) | 25 => some (22, 13) | 26 => some (22, 14) | 27 => some (22, 15)
  | 29 => some (24, 0) | 31 => some (22, 16) | 32 => some (22, 17) | 34 => some (22, 18) | 35 => some (22, 19) | 37 => some (22, 20) | 38 => some (22, 21) | 40 => some (22, 22) | 42 => some (22, 23) | 43 => some (22, 24) | 44 => some (22, 25) | 45 => some (22, 26) | 46 => some (22, 27) | 47 => some (23, 0) | _ => none
def hg_SR (T : Nat) (Rf : Nat → Nat → Nat → Option (Nat × Nat)) : Prop :=
  (∀ j q, hg_rD j = some q → Rf 0 0 j = some q) ∧ (∀ j q, hg_rM j = some q → Rf 21 0 j = some q) ∧ (∀ s, s < 3 → Rf 1 s 0 = some (2, s) ∧ Rf 1 s 1 = some (5, s) ∧ Rf 1 s 8 = some (6, s)) ∧ (∀ s j, s < 3 → j < 6 → Rf 2 s j = some (3, 6 * s + j)) ∧ (∀ i, i < 18 → Rf 3 i 7 = some (4, i)) ∧
  (∀ r, r < 6 → Rf 7 r 0 = some (8, r) ∧ Rf 7 r 1 = some (9, r)) ∧ (Rf 10 0 0 = some (11, 0) ∧ Rf 10 0 3 = some (12, 0) ∧ Rf 13 0 0 = some (14, 0)) ∧ (∀ j, j < 6 → Rf 15 0 j = some (16, j) ∧ Rf 16 j 2 = some (17, j)) ∧ ∀ t, t ≤ T → Rf 19 t 0 = some (20, t)
theorem hg_SR.D {T j : Nat} {q : Nat × Nat} (h : hg_SR T Rf) (hq : hg_rD j = some q) : Rf 0 0 j = some q := h.1 j q hq
theorem hg_SR.m {T j : Nat} {q : Nat × Nat} (h : hg_SR T Rf) (hq : hg_rM j = some q) : Rf 21 0 j = some q := h.2.1 j q hq
theorem hg_SR.s0 {T s : Nat} (h : hg_SR T Rf) (hs : s < 3) : Rf 1 s 0 = some (2, s) := (h.2.2.1 s hs).1
theorem hg_SR.s1 {T s : Nat} (h : hg_SR T Rf) (hs : s < 3) : Rf 1 s 1 = some (5, s) := (h.2.2.1 s hs).2.1
theorem hg_SR.s8 {T s : Nat} (h : hg_SR T Rf) (hs : s < 3) : Rf 1 s 8 = some (6, s) := (h.2.2.1 s hs).2.2
theorem hg_SR.ha {T s j : Nat} (h : hg_SR T Rf) (hs : s < 3) (hj : j < 6) : Rf 2 s j = some (3, 6 * s + j) := h.2.2.2.1 s j hs hj
theorem hg_SR.h7 {T i : Nat} (h : hg_SR T Rf) (hi : i < 18) : Rf 3 i 7 = some (4, i) := h.2.2.2.2.1 i hi
theorem hg_SR.w0 {T r : Nat} (h : hg_SR T Rf) (hr : r < 6) : Rf 7 r 0 = some (8, r) := (h.2.2.2.2.2.1 r hr).1
theorem hg_SR.w1 {T r : Nat} (h : hg_SR T Rf) (hr : r < 6) : Rf 7 r 1 = some (9, r) := (h.2.2.2.2.2.1 r hr).2
theorem hg_SR.r0 {T : Nat} (h : hg_SR T Rf) : Rf 10 0 0 = some (11, 0) := h.2.2.2.2.2.2.1.1
theorem hg_SR.r3 {T : Nat} (h : hg_SR T Rf) : Rf 10 0 3 = some (12, 0) := h.2.2.2.2.2.2.1.2.1
theorem hg_SR.t0 {T : Nat} (h : hg_SR T Rf) : Rf 13 0 0 = some (14, 0) := h.2.2.2.2.2.2.1.2.2
theorem hg_SR.pa {T j : Nat} (h : hg_SR T Rf) (hj : j < 6) : Rf 15 0 j = some (16, j) := (h.2.2.2.2.2.2.2.1 j hj).1
theorem hg_SR.p2 {T j : Nat} (h : hg_SR T Rf) (hj : j < 6) : Rf 16 j 2 = some (17, j) := (h.2.2.2.2.2.2.2.1 j hj).2
theorem hg_SR.o0 {T t : Nat} (h : hg_SR T Rf) (ht : t ≤ T) : Rf 19 t 0 = some (20, t) := h.2.2.2.2.2.2.2.2 t ht
theorem hg_eq1 {x y : Int32} (h : x = y) (kk : hg_WP l E d Y mc ms pc loc (.int y :: st) M Q) : hg_WP l E d Y mc ms pc loc (.int x :: st) M Q := h ▸ kk
theorem hg_iald_n {k i j : Nat} (hd : hg_D Y pc pc' 1 .iaload) (hk : hg_cl k = none) (hy : hg_ty k = 0) (hi : i < X.2.1 k) (hj : j < X.2.2 k i ∧ X.2.2 k i < 2147483648) (kk : hg_WP l E d Y mc ms pc' loc (.int (I k i j) :: st) (I, Lg, Rf, X) Q) : hg_WP l E d Y mc ms pc loc (.int (nI j) :: .ref (hg_ad E k i) :: st) (I, Lg, Rf, X) Q :=
  hg_iald hd hk hy hi (vp_in_nI hj.1 hj.2) (by rw [nI_clamp (by omega)]; exact kk)
theorem hg_bald_n {k i j : Nat} (hd : hg_D Y pc pc' 1 .baload) (hk : hg_cl k = none) (hy : hg_ty k = 1) (hi : i < X.2.1 k) (hj : j < X.2.2 k i ∧ X.2.2 k i < 2147483648) (kk : hg_WP l E d Y mc ms pc' loc (.int (I k i j) :: st) (I, Lg, Rf, X) Q) : hg_WP l E d Y mc ms pc loc (.int (nI j) :: .ref (hg_ad E k i) :: st) (I, Lg, Rf, X) Q :=
  hg_bald hd hk hy hi (vp_in_nI hj.1 hj.2) (by rw [nI_clamp (by omega)]; exact kk)
theorem hg_zald_n {k i j : Nat} (hd : hg_D Y pc pc' 1 .baload) (hk : hg_cl k = none) (hy : hg_ty k = 2) (hi : i < X.2.1 k) (hj : j < X.2.2 k i ∧ X.2.2 k i < 2147483648) (kk : hg_WP l E d Y mc ms pc' loc (.int (I k i j) :: st) (I, Lg, Rf, X) Q) : hg_WP l E d Y mc ms pc loc (.int (nI j) :: .ref (hg_ad E k i) :: st) (I, Lg, Rf, X) Q :=
  hg_zald hd hk hy hi (vp_in_nI hj.1 hj.2) (by rw [nI_clamp (by omega)]; exact kk)
theorem hg_lald_n {k i j : Nat} (hd : hg_D Y pc pc' 1 .laload) (hk : hg_cl k = none) (hy : hg_ty k = 3) (hi : i < X.2.1 k) (hj : j < X.2.2 k i ∧ X.2.2 k i < 2147483648) (kk : hg_WP l E d Y mc ms pc' loc (.long (Lg k i j) :: st) (I, Lg, Rf, X) Q) : hg_WP l E d Y mc ms pc loc (.int (nI j) :: .ref (hg_ad E k i) :: st) (I, Lg, Rf, X) Q :=
  hg_lald hd hk hy hi (vp_in_nI hj.1 hj.2) (by rw [nI_clamp (by omega)]; exact kk)
theorem hg_aald_n {k i j k' i' : Nat} (hd : hg_D Y pc pc' 1 .aaload) (hk : hg_cl k = none) (hy : 4 ≤ hg_ty k) (hi : i < X.2.1 k) (hj : j < X.2.2 k i ∧ X.2.2 k i < 2147483648) (hr : Rf k i j = some (k', i')) (kk : hg_WP l E d Y mc ms pc' loc (.ref (hg_ad E k' i') :: st) (I, Lg, Rf, X) Q) : hg_WP l E d Y mc ms pc loc (.int (nI j) :: .ref (hg_ad E k i) :: st) (I, Lg, Rf, X) Q :=
  hg_aald hd hk hy hi (vp_in_nI hj.1 hj.2) (by rw [nI_clamp (by omega)]; exact hr) kk
theorem hg_iast_n {k i j : Nat} {y : Int32} (hd : hg_D Y pc pc' 1 .iastore) (hk : hg_cl k = none) (hy : hg_ty k = 0) (hi : i < X.2.1 k) (hj : j < X.2.2 k i ∧ X.2.2 k i < 2147483648) (kk : hg_WP l E d Y mc ms pc' loc st (hg_u3 I k i j y, Lg, Rf, X) Q) : hg_WP l E d Y mc ms pc loc (.int y :: .int (nI j) :: .ref (hg_ad E k i) :: st) (I, Lg, Rf, X) Q :=
  hg_iast hd hk hy hi (vp_in_nI hj.1 hj.2) (by rw [nI_clamp (by omega)]; exact kk)
theorem hg_bast_n {k i j : Nat} {y : Int32} (hd : hg_D Y pc pc' 1 .bastore) (hk : hg_cl k = none) (hy : hg_ty k = 1) (hi : i < X.2.1 k) (hj : j < X.2.2 k i ∧ X.2.2 k i < 2147483648) (kk : hg_WP l E d Y mc ms pc' loc st (hg_u3 I k i j y.toInt8.toInt32, Lg, Rf, X) Q) : hg_WP l E d Y mc ms pc loc (.int y :: .int (nI j) :: .ref (hg_ad E k i) :: st) (I, Lg, Rf, X) Q :=
  hg_bast hd hk hy hi (vp_in_nI hj.1 hj.2) (by rw [nI_clamp (by omega)]; exact kk)
theorem hg_zast_n {k i j : Nat} {y : Int32} (hd : hg_D Y pc pc' 1 .bastore) (hk : hg_cl k = none) (hy : hg_ty k = 2) (hi : i < X.2.1 k) (hj : j < X.2.2 k i ∧ X.2.2 k i < 2147483648) (kk : hg_WP l E d Y mc ms pc' loc st (hg_u3 I k i j (vp_nar .boolean y), Lg, Rf, X) Q) : hg_WP l E d Y mc ms pc loc (.int y :: .int (nI j) :: .ref (hg_ad E k i) :: st) (I, Lg, Rf, X) Q :=
  hg_zast hd hk hy hi (vp_in_nI hj.1 hj.2) (by rw [nI_clamp (by omega)]; exact kk)
theorem hg_last_n {k i j : Nat} {y : Int64} (hd : hg_D Y pc pc' 1 .lastore) (hk : hg_cl k = none) (hy : hg_ty k = 3) (hi : i < X.2.1 k) (hj : j < X.2.2 k i ∧ X.2.2 k i < 2147483648) (kk : hg_WP l E d Y mc ms pc' loc st (I, hg_u3 Lg k i j y, Rf, X) Q) : hg_WP l E d Y mc ms pc loc (.long y :: .int (nI j) :: .ref (hg_ad E k i) :: st) (I, Lg, Rf, X) Q :=
  hg_last hd hk hy hi (vp_in_nI hj.1 hj.2) (by rw [nI_clamp (by omega)]; exact kk)
theorem hg_MC.imp {as : List Value} {Q' : Option Value → hg_M → Prop} (h : hg_MC l E d Y mc ms as M Q') (hq : ∀ r M', Q' r M' → Q r M') : hg_MC l E d Y mc ms as M Q := by
  intro p e ha hc hk s m args below hf hap hn hP
  obtain ⟨k, o, h1, h2, h3, ⟨⟨r, M', g1, g2, g3⟩, g4⟩, h5⟩ := h p e ha hc hk s m args below hf hap hn hP
  exact ⟨k, o, h1, h2, h3, ⟨⟨r, M', g1, hq r M' g2, g3⟩, g4⟩, h5⟩
/-- branches that a case decides -/
theorem hg_bt {c : Prop} {A B : Prop} (h : c) (a : A) : (c → A) ∧ (¬ c → B) := ⟨fun _ => a, fun n => absurd h n⟩
end HG4
section HG5
variable {l : Launch} {E : hg_E} {d : Nat} {Y : hg_Y} {mc ms pc pc' : Nat} {loc : List (Option Value)} {st : List Value} {M : hg_M} {Q : Option Value → hg_M → Prop}
theorem hg_aloadN0 {br : List (Option Value)} (hd : hg_D Y pc pc' 1 (.aload_n 0)) (k : hg_WP l E d Y mc ms pc' (some .null :: br) (.null :: st) M Q) : hg_WP l E d Y mc ms pc (some .null :: br) st M Q := by
  intro p e R s m args below meth c H locs cells slots Z ls hF hK hR hP hS hL hz hret
  obtain ⟨hd, rfl⟩ := hd
  exact lv_aload_nN hF.1 hF.2.1 hd rfl (hL.get (i := 0) rfl) (k p e R s m args below meth c H locs cells slots Z ls hF hK hR hP hS hL hz hret)
theorem hg_aloadN1 {b0 : Option Value} {br : List (Option Value)} (hd : hg_D Y pc pc' 1 (.aload_n 1)) (k : hg_WP l E d Y mc ms pc' (b0 :: some .null :: br) (.null :: st) M Q) : hg_WP l E d Y mc ms pc (b0 :: some .null :: br) st M Q := by
  intro p e R s m args below meth c H locs cells slots Z ls hF hK hR hP hS hL hz hret
  obtain ⟨hd, rfl⟩ := hd
  exact lv_aload_nN hF.1 hF.2.1 hd rfl (hL.get (i := 1) rfl) (k p e R s m args below meth c H locs cells slots Z ls hF hK hR hP hS hL hz hret)
theorem hg_aloadN2 {b0 b1 : Option Value} {br : List (Option Value)} (hd : hg_D Y pc pc' 1 (.aload_n 2)) (k : hg_WP l E d Y mc ms pc' (b0 :: b1 :: some .null :: br) (.null :: st) M Q) : hg_WP l E d Y mc ms pc (b0 :: b1 :: some .null :: br) st M Q := by
  intro p e R s m args below meth c H locs cells slots Z ls hF hK hR hP hS hL hz hret
  obtain ⟨hd, rfl⟩ := hd
  exact lv_aload_nN hF.1 hF.2.1 hd rfl (hL.get (i := 2) rfl) (k p e R s m args below meth c H locs cells slots Z ls hF hK hR hP hS hL hz hret)
theorem hg_aloadN3 {b0 b1 b2 : Option Value} {br : List (Option Value)} (hd : hg_D Y pc pc' 1 (.aload_n 3)) (k : hg_WP l E d Y mc ms pc' (b0 :: b1 :: b2 :: some .null :: br) (.null :: st) M Q) : hg_WP l E d Y mc ms pc (b0 :: b1 :: b2 :: some .null :: br) st M Q := by
  intro p e R s m args below meth c H locs cells slots Z ls hF hK hR hP hS hL hz hret
  obtain ⟨hd, rfl⟩ := hd
  exact lv_aload_nN hF.1 hF.2.1 hd rfl (hL.get (i := 3) rfl) (k p e R s m args below meth c H locs cells slots Z ls hF hK hR hP hS hL hz hret)
theorem hg_aloadN4 {b0 b1 b2 b3 : Option Value} {br : List (Option Value)} (hd : hg_D Y pc pc' 2 (.aload 4)) (k : hg_WP l E d Y mc ms pc' (b0 :: b1 :: b2 :: b3 :: some .null :: br) (.null :: st) M Q) : hg_WP l E d Y mc ms pc (b0 :: b1 :: b2 :: b3 :: some .null :: br) st M Q := by
  intro p e R s m args below meth c H locs cells slots Z ls hF hK hR hP hS hL hz hret
  obtain ⟨hd, rfl⟩ := hd
  exact lv_aloadN hF.1 hF.2.1 hd (hL.get (i := 4) rfl) (k p e R s m args below meth c H locs cells slots Z ls hF hK hR hP hS hL hz hret)
theorem hg_aloadN5 {b0 b1 b2 b3 b4 : Option Value} {br : List (Option Value)} (hd : hg_D Y pc pc' 2 (.aload 5)) (k : hg_WP l E d Y mc ms pc' (b0 :: b1 :: b2 :: b3 :: b4 :: some .null :: br) (.null :: st) M Q) : hg_WP l E d Y mc ms pc (b0 :: b1 :: b2 :: b3 :: b4 :: some .null :: br) st M Q := by
  intro p e R s m args below meth c H locs cells slots Z ls hF hK hR hP hS hL hz hret
  obtain ⟨hd, rfl⟩ := hd
  exact lv_aloadN hF.1 hF.2.1 hd (hL.get (i := 5) rfl) (k p e R s m args below meth c H locs cells slots Z ls hF hK hR hP hS hL hz hret)
theorem hg_aloadN6 {b0 b1 b2 b3 b4 b5 : Option Value} {br : List (Option Value)} (hd : hg_D Y pc pc' 2 (.aload 6)) (k : hg_WP l E d Y mc ms pc' (b0 :: b1 :: b2 :: b3 :: b4 :: b5 :: some .null :: br) (.null :: st) M Q) : hg_WP l E d Y mc ms pc (b0 :: b1 :: b2 :: b3 :: b4 :: b5 :: some .null :: br) st M Q := by
  intro p e R s m args below meth c H locs cells slots Z ls hF hK hR hP hS hL hz hret
  obtain ⟨hd, rfl⟩ := hd
  exact lv_aloadN hF.1 hF.2.1 hd (hL.get (i := 6) rfl) (k p e R s m args below meth c H locs cells slots Z ls hF hK hR hP hS hL hz hret)
theorem hg_aloadN7 {b0 b1 b2 b3 b4 b5 b6 : Option Value} {br : List (Option Value)} (hd : hg_D Y pc pc' 2 (.aload 7)) (k : hg_WP l E d Y mc ms pc' (b0 :: b1 :: b2 :: b3 :: b4 :: b5 :: b6 :: some .null :: br) (.null :: st) M Q) : hg_WP l E d Y mc ms pc (b0 :: b1 :: b2 :: b3 :: b4 :: b5 :: b6 :: some .null :: br) st M Q := by
  intro p e R s m args below meth c H locs cells slots Z ls hF hK hR hP hS hL hz hret
  obtain ⟨hd, rfl⟩ := hd
  exact lv_aloadN hF.1 hF.2.1 hd (hL.get (i := 7) rfl) (k p e R s m args below meth c H locs cells slots Z ls hF hK hR hP hS hL hz hret)
theorem hg_aloadN8 {b0 b1 b2 b3 b4 b5 b6 b7 : Option Value} {br : List (Option Value)} (hd : hg_D Y pc pc' 2 (.aload 8)) (k : hg_WP l E d Y mc ms pc' (b0 :: b1 :: b2 :: b3 :: b4 :: b5 :: b6 :: b7 :: some .null :: br) (.null :: st) M Q) : hg_WP l E d Y mc ms pc (b0 :: b1 :: b2 :: b3 :: b4 :: b5 :: b6 :: b7 :: some .null :: br) st M Q := by
  intro p e R s m args below meth c H locs cells slots Z ls hF hK hR hP hS hL hz hret
  obtain ⟨hd, rfl⟩ := hd
  exact lv_aloadN hF.1 hF.2.1 hd (hL.get (i := 8) rfl) (k p e R s m args below meth c H locs cells slots Z ls hF hK hR hP hS hL hz hret)
theorem hg_cVi {Z : hg_Y} {idx n k i ci : Nat} {As rest : List Value} {P : Int32 → hg_M → Prop} (hd : hg_D Y pc pc' 3 (.invokevirtual idx)) (hl : hg_LV Y.1.cls idx Z n) (hk : hg_cl k = some ci) (hci : hg_C ci = Z.1.cls) (hi : i < hg_ct M k) (hn : As.length = n) (hw : (rest.map fun v => v.category).sum ≤ 8) (hm : hg_MC l E d Z 0 0 (.ref (hg_ad E k i) :: As) M (hg_i P)) (hst : st = As.reverse ++ .ref (hg_ad E k i) :: rest) (kk : ∀ (v : Int32) (M' : hg_M), P v M' → hg_WP l E d Y mc ms pc' loc (.int v :: rest) M' Q) : hg_WP l E d Y mc ms pc loc st M Q :=
  hg_callV hd hl hk hci hi hn hw ⟨Nat.zero_le _, Nat.zero_le _⟩ hm hst (fun r M' h => by obtain ⟨v, rfl, h⟩ := h; exact kk v M' h)
theorem hg_cSi {Z : hg_Y} {idx n : Nat} {As rest : List Value} {P : Int32 → hg_M → Prop} (hd : hg_D Y pc pc' 3 (.invokestatic idx)) (hl : hg_LS Y.1.cls idx Z n) (hn : As.length = n) (hw : (rest.map fun v => v.category).sum ≤ 8) (hm : hg_MC l E d Z 0 0 As M (hg_i P)) (hst : st = As.reverse ++ rest) (kk : ∀ (v : Int32) (M' : hg_M), P v M' → hg_WP l E d Y mc ms pc' loc (.int v :: rest) M' Q) : hg_WP l E d Y mc ms pc loc st M Q :=
  hg_callS hd hl hn hw ⟨Nat.zero_le _, Nat.zero_le _⟩ hm hst (fun r M' h => by obtain ⟨v, rfl, h⟩ := h; exact kk v M' h)
theorem hg_cQi {Z : hg_Y} {idx n t : Nat} {As rest : List Value} {P : Int32 → hg_M → Prop} (hd : hg_D Y pc pc' 3 (.invokevirtual idx)) (hl : hg_LV Y.1.cls idx Z n) (ht : t < 5) (hci : Z.1.cls = "java/lang/String") (hn : As.length = n) (hw : (rest.map fun v => v.category).sum ≤ 8) (hm : hg_MC l E d Z 0 0 (.ref (hg_ex E (10 + t)) :: As) M (hg_i P)) (hst : st = As.reverse ++ .ref (hg_ex E (10 + t)) :: rest) (kk : ∀ (v : Int32) (M' : hg_M), P v M' → hg_WP l E d Y mc ms pc' loc (.int v :: rest) M' Q) : hg_WP l E d Y mc ms pc loc st M Q :=
  hg_callQ hd hl ht hci hn hw ⟨Nat.zero_le _, Nat.zero_le _⟩ hm hst (fun r M' h => by obtain ⟨v, rfl, h⟩ := h; exact kk v M' h)
theorem hg_cVl {Z : hg_Y} {idx n k i ci : Nat} {As rest : List Value} {P : Int64 → hg_M → Prop} (hd : hg_D Y pc pc' 3 (.invokevirtual idx)) (hl : hg_LV Y.1.cls idx Z n) (hk : hg_cl k = some ci) (hci : hg_C ci = Z.1.cls) (hi : i < hg_ct M k) (hn : As.length = n) (hw : (rest.map fun v => v.category).sum ≤ 8) (hm : hg_MC l E d Z 0 0 (.ref (hg_ad E k i) :: As) M (hg_l P)) (hst : st = As.reverse ++ .ref (hg_ad E k i) :: rest) (kk : ∀ (v : Int64) (M' : hg_M), P v M' → hg_WP l E d Y mc ms pc' loc (.long v :: rest) M' Q) : hg_WP l E d Y mc ms pc loc st M Q :=
  hg_callV hd hl hk hci hi hn hw ⟨Nat.zero_le _, Nat.zero_le _⟩ hm hst (fun r M' h => by obtain ⟨v, rfl, h⟩ := h; exact kk v M' h)
theorem hg_cSl {Z : hg_Y} {idx n : Nat} {As rest : List Value} {P : Int64 → hg_M → Prop} (hd : hg_D Y pc pc' 3 (.invokestatic idx)) (hl : hg_LS Y.1.cls idx Z n) (hn : As.length = n) (hw : (rest.map fun v => v.category).sum ≤ 8) (hm : hg_MC l E d Z 0 0 As M (hg_l P)) (hst : st = As.reverse ++ rest) (kk : ∀ (v : Int64) (M' : hg_M), P v M' → hg_WP l E d Y mc ms pc' loc (.long v :: rest) M' Q) : hg_WP l E d Y mc ms pc loc st M Q :=
  hg_callS hd hl hn hw ⟨Nat.zero_le _, Nat.zero_le _⟩ hm hst (fun r M' h => by obtain ⟨v, rfl, h⟩ := h; exact kk v M' h)
theorem hg_cQl {Z : hg_Y} {idx n t : Nat} {As rest : List Value} {P : Int64 → hg_M → Prop} (hd : hg_D Y pc pc' 3 (.invokevirtual idx)) (hl : hg_LV Y.1.cls idx Z n) (ht : t < 5) (hci : Z.1.cls = "java/lang/String") (hn : As.length = n) (hw : (rest.map fun v => v.category).sum ≤ 8) (hm : hg_MC l E d Z 0 0 (.ref (hg_ex E (10 + t)) :: As) M (hg_l P)) (hst : st = As.reverse ++ .ref (hg_ex E (10 + t)) :: rest) (kk : ∀ (v : Int64) (M' : hg_M), P v M' → hg_WP l E d Y mc ms pc' loc (.long v :: rest) M' Q) : hg_WP l E d Y mc ms pc loc st M Q :=
  hg_callQ hd hl ht hci hn hw ⟨Nat.zero_le _, Nat.zero_le _⟩ hm hst (fun r M' h => by obtain ⟨v, rfl, h⟩ := h; exact kk v M' h)
theorem hg_cVr {Z : hg_Y} {idx n k i ci : Nat} {As rest : List Value} {P : Option (Nat × Nat) → hg_M → Prop} (hd : hg_D Y pc pc' 3 (.invokevirtual idx)) (hl : hg_LV Y.1.cls idx Z n) (hk : hg_cl k = some ci) (hci : hg_C ci = Z.1.cls) (hi : i < hg_ct M k) (hn : As.length = n) (hw : (rest.map fun v => v.category).sum ≤ 8) (hm : hg_MC l E d Z 0 0 (.ref (hg_ad E k i) :: As) M (hg_r E P)) (hst : st = As.reverse ++ .ref (hg_ad E k i) :: rest) (kk : ∀ (v : Option (Nat × Nat)) (M' : hg_M), P v M' → hg_WP l E d Y mc ms pc' loc (hg_rv E v :: rest) M' Q) : hg_WP l E d Y mc ms pc loc st M Q :=
  hg_callV hd hl hk hci hi hn hw ⟨Nat.zero_le _, Nat.zero_le _⟩ hm hst (fun r M' h => by obtain ⟨v, rfl, h⟩ := h; exact kk v M' h)
theorem hg_cSr {Z : hg_Y} {idx n : Nat} {As rest : List Value} {P : Option (Nat × Nat) → hg_M → Prop} (hd : hg_D Y pc pc' 3 (.invokestatic idx)) (hl : hg_LS Y.1.cls idx Z n) (hn : As.length = n) (hw : (rest.map fun v => v.category).sum ≤ 8) (hm : hg_MC l E d Z 0 0 As M (hg_r E P)) (hst : st = As.reverse ++ rest) (kk : ∀ (v : Option (Nat × Nat)) (M' : hg_M), P v M' → hg_WP l E d Y mc ms pc' loc (hg_rv E v :: rest) M' Q) : hg_WP l E d Y mc ms pc loc st M Q :=
  hg_callS hd hl hn hw ⟨Nat.zero_le _, Nat.zero_le _⟩ hm hst (fun r M' h => by obtain ⟨v, rfl, h⟩ := h; exact kk v M' h)
theorem hg_cQr {Z : hg_Y} {idx n t : Nat} {As rest : List Value} {P : Option (Nat × Nat) → hg_M → Prop} (hd : hg_D Y pc pc' 3 (.invokevirtual idx)) (hl : hg_LV Y.1.cls idx Z n) (ht : t < 5) (hci : Z.1.cls = "java/lang/String") (hn : As.length = n) (hw : (rest.map fun v => v.category).sum ≤ 8) (hm : hg_MC l E d Z 0 0 (.ref (hg_ex E (10 + t)) :: As) M (hg_r E P)) (hst : st = As.reverse ++ .ref (hg_ex E (10 + t)) :: rest) (kk : ∀ (v : Option (Nat × Nat)) (M' : hg_M), P v M' → hg_WP l E d Y mc ms pc' loc (hg_rv E v :: rest) M' Q) : hg_WP l E d Y mc ms pc loc st M Q :=
  hg_callQ hd hl ht hci hn hw ⟨Nat.zero_le _, Nat.zero_le _⟩ hm hst (fun r M' h => by obtain ⟨v, rfl, h⟩ := h; exact kk v M' h)
theorem hg_cVv {Z : hg_Y} {idx n k i ci : Nat} {As rest : List Value} {P : hg_M → Prop} (hd : hg_D Y pc pc' 3 (.invokevirtual idx)) (hl : hg_LV Y.1.cls idx Z n) (hk : hg_cl k = some ci) (hci : hg_C ci = Z.1.cls) (hi : i < hg_ct M k) (hn : As.length = n) (hw : (rest.map fun v => v.category).sum ≤ 8) (hm : hg_MC l E d Z 0 0 (.ref (hg_ad E k i) :: As) M (hg_v P)) (hst : st = As.reverse ++ .ref (hg_ad E k i) :: rest) (kk : ∀ (M' : hg_M), P M' → hg_WP l E d Y mc ms pc' loc ( rest) M' Q) : hg_WP l E d Y mc ms pc loc st M Q :=
  hg_callV hd hl hk hci hi hn hw ⟨Nat.zero_le _, Nat.zero_le _⟩ hm hst (fun r M' h => by obtain ⟨rfl, h⟩ := h; exact kk M' h)
theorem hg_cSv {Z : hg_Y} {idx n : Nat} {As rest : List Value} {P : hg_M → Prop} (hd : hg_D Y pc pc' 3 (.invokestatic idx)) (hl : hg_LS Y.1.cls idx Z n) (hn : As.length = n) (hw : (rest.map fun v => v.category).sum ≤ 8) (hm : hg_MC l E d Z 0 0 As M (hg_v P)) (hst : st = As.reverse ++ rest) (kk : ∀ (M' : hg_M), P M' → hg_WP l E d Y mc ms pc' loc ( rest) M' Q) : hg_WP l E d Y mc ms pc loc st M Q :=
  hg_callS hd hl hn hw ⟨Nat.zero_le _, Nat.zero_le _⟩ hm hst (fun r M' h => by obtain ⟨rfl, h⟩ := h; exact kk M' h)
theorem hg_cQv {Z : hg_Y} {idx n t : Nat} {As rest : List Value} {P : hg_M → Prop} (hd : hg_D Y pc pc' 3 (.invokevirtual idx)) (hl : hg_LV Y.1.cls idx Z n) (ht : t < 5) (hci : Z.1.cls = "java/lang/String") (hn : As.length = n) (hw : (rest.map fun v => v.category).sum ≤ 8) (hm : hg_MC l E d Z 0 0 (.ref (hg_ex E (10 + t)) :: As) M (hg_v P)) (hst : st = As.reverse ++ .ref (hg_ex E (10 + t)) :: rest) (kk : ∀ (M' : hg_M), P M' → hg_WP l E d Y mc ms pc' loc ( rest) M' Q) : hg_WP l E d Y mc ms pc loc st M Q :=
  hg_callQ hd hl ht hci hn hw ⟨Nat.zero_le _, Nat.zero_le _⟩ hm hst (fun r M' h => by obtain ⟨rfl, h⟩ := h; exact kk M' h)
end HG5
