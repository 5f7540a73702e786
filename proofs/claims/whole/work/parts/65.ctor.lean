/-! constructors: the memory grows cell by cell -/
def hxn (m k : Nat) : Nat := ((List.range (hg_cap k)).filter (fun i => decide (hg_sq k i < m))).length
abbrev hxc (m : Nat) : Nat × (Nat → Nat) × (Nat → Nat → Nat) := (m, hxn m, hg_len)
def hL0 : Nat → Nat → Nat → Int64 := fun _ _ _ => 0
theorem hxn_26 {m k : Nat} (h : 26 ≤ k) : hxn m k = 0 := by
  have e : hg_cap k = 0 := by
    unfold hg_cap
    rw [List.getD_eq_getElem?_getD, List.getElem?_eq_none (by simpa using h)]
    rfl
  unfold hxn; rw [e]; rfl
theorem hx_s1 : ∀ m, m < 120 → (hg_inv m).1 < 26 ∧ hxn m (hg_inv m).1 = (hg_inv m).2 ∧ hg_sq (hg_inv m).1 (hg_inv m).2 = m ∧ (hg_inv m).2 < hg_cap (hg_inv m).1 := by decide +kernel
theorem hx_s2 : ∀ k, k < 26 → ∀ m, m < 120 → hxn (m + 1) k = if k = (hg_inv m).1 then hxn m k + 1 else hxn m k := by decide +kernel
theorem hx_step {m : Nat} (hm : m < 120) : hg_up (hxn m) (hg_inv m).1 ((hg_inv m).2 + 1) = hxn (m + 1) := by
  obtain ⟨h1, h2, h3, h4⟩ := hx_s1 m hm
  funext k
  unfold hg_up
  by_cases hk : k < 26
  · rw [hx_s2 k hk m hm]
    by_cases z : k = (hg_inv m).1
    · rw [if_pos z, if_pos z, z, h2]
    · rw [if_neg z, if_neg z]
  · rw [if_neg (by omega), hxn_26 (by omega), hxn_26 (by omega)]
theorem hz3e {α : Type} {f : Nat → Nat → Nat → α} {k i : Nat} {x : α} (h : ∀ j, f k i j = x) : hg_z3 f k i x = f := by
  funext a b c; unfold hg_z3; split
  · rename_i z; rw [z.1, z.2]; exact (h c).symm
  · rfl
theorem hup2e {k i N : Nat} (h : hg_len k i = N) : hg_up2 hg_len k i N = hg_len := by
  funext a b; unfold hg_up2; split
  · rename_i z; rw [z.1, z.2]; exact h.symm
  · rfl
theorem hx_in {j : Nat} {n : Nat} (h : j < n ∧ n < 2147483648) : vp_in (nI j) n := vp_in_nI h.1 h.2
section M53
variable {l : Launch} {E : hg_E} {d : Nat} {Y : hg_Y} {mc ms pc pc' : Nat} {loc : List (Option Value)} {st : List Value} {Q : Option Value → hg_M → Prop}
variable {I : Nat → Nat → Nat → Int32} {Rf : Nat → Nat → Nat → Option (Nat × Nat)}
theorem hx_new {m k i ci idx : Nat} (hm : hg_inv m = (k, i)) (hm2 : m < 120) (hd : hg_D Y pc pc' 3 (.new idx)) (hn : hg_CN Y.1.cls idx ci) (hk : hg_cl k = some ci) (hI : ∀ j, I k i j = 0) (hRf : ∀ j, Rf k i j = none) (hmc : 1 ≤ mc) (hms : hg_N ci ≤ ms) (kk : hg_WP l E d Y (mc - 1) (ms - hg_N ci) pc' loc (.ref (hg_ad E k i) :: st) (I, hL0, Rf, hxc (m + 1)) Q) : hg_WP l E d Y mc ms pc loc st (I, hL0, Rf, hxc m) Q := by
  obtain ⟨h1, h2, h3, h4⟩ := hx_s1 m hm2
  have h5 := hx_step hm2
  rw [hm] at h1 h2 h3 h4 h5
  have h2 : hxn m k = i := h2
  refine hg_new (k := k) hd hn hk (by show hg_sq k (hxn m k) = m; rw [h2]; exact h3) (by show hxn m k < _; rw [h2]; exact h4) hmc hms ?_
  show hg_WP l E d Y (mc - 1) (ms - hg_N ci) pc' loc (.ref (hg_ad E k (hxn m k)) :: st) (hg_z3 I k (hxn m k) 0, hg_z3 hL0 k (hxn m k) 0, hg_z3 Rf k (hxn m k) none, (m + 1, hg_up (hxn m) k (hxn m k + 1), hg_len)) Q
  rw [h2, hz3e hI, hz3e hRf, hz3e (f := hL0) (k := k) (i := i) (x := 0) (fun _ => rfl), show hg_up (hxn m) k (i + 1) = hxn (m + 1) from h5]
  exact kk
theorem hx_newa {m k i N : Nat} {n : Int32} {at_ : ArrayType} (hm : hg_inv m = (k, i)) (hd : hg_D Y pc pc' 2 (.newarray at_)) (hk : hg_cl k = none) (hty : newarray.typeOf at_ = hg_fty (hg_ty k)) (ht : hg_ty k < 4) (hT : Cond.arrayClass (newarray.typeOf at_) ∈ hg_T) (hm2 : m < 120) (h0 : ¬ n < 0) (hN : n.toNatClampNeg = N ∧ hg_len k i = N) (hbig : N ≤ 1000) (hI : ∀ j, I k i j = 0) (hRf : ∀ j, Rf k i j = none) (hmc : 1 ≤ mc) (hms : N ≤ ms) (kk : hg_WP l E d Y (mc - 1) (ms - N) pc' loc (.ref (hg_ad E k i) :: st) (I, hL0, Rf, hxc (m + 1)) Q) : hg_WP l E d Y mc ms pc loc (.int n :: st) (I, hL0, Rf, hxc m) Q := by
  obtain ⟨h1, h2, h3, h4⟩ := hx_s1 m hm2
  have h5 := hx_step hm2
  rw [hm] at h1 h2 h3 h4 h5
  have h2 : hxn m k = i := h2
  refine hg_newa (k := k) (N := N) hd hk hty ht hT (by show hg_sq k (hxn m k) = m; rw [h2]; exact h3) (by show hxn m k < _; rw [h2]; exact h4) h0 hN.1 hbig hmc hms ?_
  show hg_WP l E d Y (mc - 1) (ms - N) pc' loc (.ref (hg_ad E k (hxn m k)) :: st) (hg_z3 I k (hxn m k) 0, hg_z3 hL0 k (hxn m k) 0, hg_z3 Rf k (hxn m k) none, (m + 1, hg_up (hxn m) k (hxn m k + 1), hg_up2 hg_len k (hxn m k) N)) Q
  rw [h2, hz3e hI, hz3e hRf, hz3e (f := hL0) (k := k) (i := i) (x := 0) (fun _ => rfl), show hg_up (hxn m) k (i + 1) = hxn (m + 1) from h5, hup2e hN.2]
  exact kk
theorem hx_newq {m k i N idx : Nat} {n : Int32} {C : String} (hm : hg_inv m = (k, i)) (hd : hg_D Y pc pc' 3 (.anewarray idx)) (hc : Cond.classLink Y.1.cls idx C ∈ hg_T) (hk : hg_cl k = none) (hty : (hg_ty k = 4 ∧ C = "HangmanDinner$House") ∨ (hg_ty k = 5 ∧ C = "HangmanDinner$Tape")) (hm2 : m < 120) (h0 : ¬ n < 0) (hN : n.toNatClampNeg = N ∧ hg_len k i = N) (hbig : N ≤ 1000) (hI : ∀ j, I k i j = 0) (hRf : ∀ j, Rf k i j = none) (hmc : 1 ≤ mc) (hms : N ≤ ms) (kk : hg_WP l E d Y (mc - 1) (ms - N) pc' loc (.ref (hg_ad E k i) :: st) (I, hL0, Rf, hxc (m + 1)) Q) : hg_WP l E d Y mc ms pc loc (.int n :: st) (I, hL0, Rf, hxc m) Q := by
  obtain ⟨h1, h2, h3, h4⟩ := hx_s1 m hm2
  have h5 := hx_step hm2
  rw [hm] at h1 h2 h3 h4 h5
  have h2 : hxn m k = i := h2
  refine hg_newq (k := k) (N := N) hd hc hk hty (by show hg_sq k (hxn m k) = m; rw [h2]; exact h3) (by show hxn m k < _; rw [h2]; exact h4) h0 hN.1 hbig hmc hms ?_
  show hg_WP l E d Y (mc - 1) (ms - N) pc' loc (.ref (hg_ad E k (hxn m k)) :: st) (hg_z3 I k (hxn m k) 0, hg_z3 hL0 k (hxn m k) 0, hg_z3 Rf k (hxn m k) none, (m + 1, hg_up (hxn m) k (hxn m k + 1), hg_up2 hg_len k (hxn m k) N)) Q
  rw [h2, hz3e hI, hz3e hRf, hz3e (f := hL0) (k := k) (i := i) (x := 0) (fun _ => rfl), show hg_up (hxn m) k (i + 1) = hxn (m + 1) from h5, hup2e hN.2]
  exact kk
theorem m_H_init {m h : Nat} (hm : hg_inv m = (4, h)) (hm2 : m < 120) (hh : h < hxn (m + 1) 3) (hI : ∀ j, I 4 h j = 0) (hRf : ∀ j, Rf 4 h j = none) : hg_MC l E (d + 1) Y_H_init 1 4 [.ref (hg_ad E 3 h)] (I, hL0, Rf, hxc m) (hg_v (fun M' => M' = (I, hL0, (hg_u3 Rf 3 h 7 (some (4, h))), hxc (m + 1)))) := by
  refine hg_mc k_H_init (Nat.le_of_ble_eq_true rfl) ?_
  show hg_WP l E _ Y_H_init 1 4 0 [some (.ref (hg_ad E 3 h))] [] (I, hL0, Rf, hxc m) _
  refine hg_aload0 d_H_init_0 ?_
  refine hg_objInit d_H_init_1 l_H_1 ?_
  refine hg_aload0 d_H_init_4 ?_
  refine hg_iconst (v := 4) d_H_init_5 (by decide) ?_
  refine hx_newa (m := m) (k := 4) (i := h) (N := 4) hm d_H_init_6 rfl rfl (by decide) hg_ac_int hm2 (by decide) (by exact ⟨by decide, rfl⟩) (by decide) hI hRf (by decide) (by decide) ?_
  refine hg_putR d_H_init_8 f_H_7 rfl rfl (Or.inr ⟨rfl, rfl, rfl⟩) (fun _ => rfl) (fun _ => rfl) hh ?_
  refine hg_return d_H_init_11 rfl ?_
  rfl
theorem hx_pos {n : Nat} (h : n ≤ 100) : ¬ nI n < 0 := Int32.not_lt.mpr (nI_le (a := 0) (b := n) (Nat.zero_le _) (by omega))
theorem m_W_init {m r n : Nat} (hm : hg_inv m = (8, r)) (hm1 : hg_inv (m + 1) = (9, r)) (hm2 : m < 120) (hm3 : m + 1 < 120) (hn : n ≤ 100) (hl8 : hg_len 8 r = n) (hl9 : hg_len 9 r = n) (hb1 : r < hxn (m + 1) 7) (hb2 : r < hxn (m + 2) 7) (hI8 : ∀ j, I 8 r j = 0) (hI9 : ∀ j, I 9 r j = 0) (hRf8 : ∀ j, Rf 8 r j = none) (hRf9 : ∀ j, Rf 9 r j = none) : hg_MC l E (d + 1) Y_W_init 2 200 [.ref (hg_ad E 7 r), .int (nI n)] (I, hL0, Rf, hxc m) (hg_v (fun M' => M' = (I, hL0, (hg_u3 (hg_u3 Rf 7 r 0 (some (8, r))) 7 r 1 (some (9, r))), hxc (m + 2)))) := by
  refine hg_mc k_W_init (Nat.le_of_ble_eq_true rfl) ?_
  show hg_WP l E _ Y_W_init 2 200 0 [some (.ref (hg_ad E 7 r)), some (.int (nI n))] [] (I, hL0, Rf, hxc m) _
  refine hg_aload0 d_W_init_0 ?_
  refine hg_objInit d_W_init_1 l_W_3 ?_
  refine hg_aload0 d_W_init_4 ?_
  refine hg_iload1 d_W_init_5 ?_
  refine hx_newa (m := m) (k := 8) (i := r) (N := n) hm d_W_init_6 rfl rfl (by decide) hg_ac_int hm2 (hx_pos hn) ⟨nI_clamp (by omega), hl8⟩ (by omega) hI8 hRf8 (by decide) (by omega) ?_
  refine hg_putR d_W_init_8 f_W_9 rfl rfl (Or.inr ⟨rfl, rfl, rfl⟩) (fun _ => rfl) (fun _ => rfl) hb1 ?_
  refine hg_aload0 d_W_init_11 ?_
  refine hg_iload1 d_W_init_12 ?_
  refine hx_newa (m := m + 1) (k := 9) (i := r) (N := n) hm1 d_W_init_13 rfl rfl (by decide) hg_ac_int hm3 (hx_pos hn) ⟨nI_clamp (by omega), hl9⟩ (by omega) hI9 (fun j => (hg_u3k (by omega)).trans (hRf9 j)) (by decide) (by omega) ?_
  refine hg_putR d_W_init_15 f_W_15 rfl rfl (Or.inr ⟨rfl, rfl, rfl⟩) (fun _ => rfl) (fun _ => rfl) hb2 ?_
  refine hg_return d_W_init_18 rfl ?_
  rfl
theorem m_R_init (hI11 : ∀ j, I 11 0 j = 0) (hI12 : ∀ j, I 12 0 j = 0) (hRf11 : ∀ j, Rf 11 0 j = none) (hRf12 : ∀ j, Rf 12 0 j = none) : hg_MC l E (d + 1) Y_R_init 2 200 [.ref (hg_ad E 10 0)] (I, hL0, Rf, hxc 20) (hg_v (fun M' => M' = (I, hL0, (hg_u3 (hg_u3 Rf 10 0 0 (some (11, 0))) 10 0 3 (some (12, 0))), hxc 22))) := by
  refine hg_mc k_R_init (Nat.le_of_ble_eq_true rfl) ?_
  show hg_WP l E _ Y_R_init 2 200 0 [some (.ref (hg_ad E 10 0))] [] (I, hL0, Rf, hxc 20) _
  refine hg_aload0 d_R_init_0 ?_
  refine hg_objInit d_R_init_1 l_R_3 ?_
  refine hg_aload0 d_R_init_4 ?_
  refine hg_bipush (v := 100) d_R_init_5 (by decide) ?_
  refine hx_newa (m := 20) (k := 11) (i := 0) (N := 100) (by decide +kernel) d_R_init_7 rfl rfl (by decide) hg_ac_byte (by decide) (by decide) (by decide) (by decide) hI11 (by intro j; (repeat rw [hg_u3k (by decide)]); exact hRf11 j) (by decide) (by decide) ?_
  refine hg_putR d_R_init_9 f_R_11 rfl rfl (Or.inr ⟨rfl, rfl, rfl⟩) (fun _ => rfl) (fun _ => rfl) (by decide +kernel) ?_
  refine hg_aload0 d_R_init_12 ?_
  refine hg_bipush (v := 100) d_R_init_13 (by decide) ?_
  refine hx_newa (m := 21) (k := 12) (i := 0) (N := 100) (by decide +kernel) d_R_init_15 rfl rfl (by decide) hg_ac_int (by decide) (by decide) (by decide) (by decide) hI12 (by intro j; (repeat rw [hg_u3k (by decide)]); exact hRf12 j) (by decide) (by decide) ?_
  refine hg_putR d_R_init_17 f_R_15 rfl rfl (Or.inr ⟨rfl, rfl, rfl⟩) (fun _ => rfl) (fun _ => rfl) (by decide +kernel) ?_
  refine hg_return d_R_init_20 rfl ?_
  rfl
theorem m_T_init (hI14 : ∀ j, I 14 0 j = 0) (hRf14 : ∀ j, Rf 14 0 j = none) : hg_MC l E (d + 1) Y_T_init 1 20 [.ref (hg_ad E 13 0)] (I, hL0, Rf, hxc 23) (hg_v (fun M' => M' = (I, hL0, (hg_u3 Rf 13 0 0 (some (14, 0))), hxc 24))) := by
  refine hg_mc k_T_init (Nat.le_of_ble_eq_true rfl) ?_
  show hg_WP l E _ Y_T_init 1 20 0 [some (.ref (hg_ad E 13 0))] [] (I, hL0, Rf, hxc 23) _
  refine hg_aload0 d_T_init_0 ?_
  refine hg_objInit d_T_init_1 l_T_1 ?_
  refine hg_aload0 d_T_init_4 ?_
  refine hg_bipush (v := 20) d_T_init_5 (by decide) ?_
  refine hx_newa (m := 23) (k := 14) (i := 0) (N := 20) (by decide +kernel) d_T_init_7 rfl rfl (by decide) hg_ac_int (by decide) (by decide) (by decide) (by decide) hI14 (by intro j; (repeat rw [hg_u3k (by decide)]); exact hRf14 j) (by decide) (by decide) ?_
  refine hg_putR d_T_init_9 f_T_9 rfl rfl (Or.inr ⟨rfl, rfl, rfl⟩) (fun _ => rfl) (fun _ => rfl) (by decide +kernel) ?_
  refine hg_return d_T_init_12 rfl ?_
  rfl
theorem m_P_init {m t : Nat} (hm : hg_inv m = (17, t)) (hm2 : m < 120) (hb1 : t < hxn m 16) (hb2 : t < hxn (m + 1) 16) (hI : ∀ j, I 17 t j = 0) (hRf : ∀ j, Rf 17 t j = none) : hg_MC l E (d + 1) Y_P_init 1 60 [.ref (hg_ad E 16 t)] (I, hL0, Rf, hxc m) (hg_v (fun M' => M' = ((hg_u3 I 16 t 0 (-1)), hL0, (hg_u3 Rf 16 t 2 (some (17, t))), hxc (m + 1)))) := by
  refine hg_mc k_P_init (Nat.le_of_ble_eq_true rfl) ?_
  show hg_WP l E _ Y_P_init 1 60 0 [some (.ref (hg_ad E 16 t))] [] (I, hL0, Rf, hxc m) _
  refine hg_aload0 d_P_init_0 ?_
  refine hg_objInit d_P_init_1 l_P_1 ?_
  refine hg_aload0 d_P_init_4 ?_
  refine hg_iconst (v := (-1)) d_P_init_5 (by decide) ?_
  refine hg_putI d_P_init_6 f_P_9 rfl rfl (Or.inl rfl) rfl rfl hb1 ?_
  refine hg_aload0 d_P_init_9 ?_
  refine hg_bipush (v := 60) d_P_init_10 (by decide) ?_
  refine hx_newa (m := m) (k := 17) (i := t) (N := 60) hm d_P_init_12 rfl rfl (by decide) hg_ac_long hm2 (by decide) ⟨by decide, rfl⟩ (by decide) (fun j => (hg_u3k (by omega)).trans (hI j)) hRf (by decide) (by decide) ?_
  refine hg_putR d_P_init_14 f_P_13 rfl rfl (Or.inr ⟨rfl, rfl, rfl⟩) (fun _ => rfl) (fun _ => rfl) hb2 ?_
  refine hg_return d_P_init_17 rfl ?_
  rfl
theorem hx_cp0 {k i k0 i0 sp dp n : Nat} (h : n = 0 := by rfl) : hg_cp I k i k0 i0 sp dp n = I := by
  subst h; funext a b c; unfold hg_cp; rw [if_neg (by omega)]
theorem m_O_init0 (hI : ∀ j, I 20 0 j = 0) (hRf : ∀ j, Rf 20 0 j = none) : hg_MC l E (d + 1) Y_O_init 1 0 [.ref (hg_ad E 19 0), .ref (hg_ad E 25 0), .int 0, .int 60] (I, hL0, Rf, hxc 28) (hg_v (fun M' => M' = ((hg_u3 I 19 0 1 60), hL0, (hg_u3 Rf 19 0 0 (some (20, 0))), hxc 29))) := by
  refine hg_mc k_O_init (Nat.le_of_ble_eq_true rfl) ?_
  show hg_WP l E _ Y_O_init 1 0 0 [some (.ref (hg_ad E 19 0)), some (.ref (hg_ad E 25 0)), some (.int 0), some (.int 60)] [] (I, hL0, Rf, hxc 28) _
  refine hg_aload0 d_O_init_0 ?_
  refine hg_objInit d_O_init_1 l_O_1 ?_
  refine hg_aload0 d_O_init_4 ?_
  refine hg_iload2 d_O_init_5 ?_
  refine hx_newa (m := 28) (k := 20) (i := 0) (N := 0) (by decide +kernel) d_O_init_6 rfl rfl (by decide) hg_ac_int (by decide) (by decide) ⟨by decide, rfl⟩ (by decide) hI hRf (by decide) (by decide) ?_
  refine hg_putR d_O_init_8 f_O_7 rfl rfl (Or.inr ⟨rfl, rfl, rfl⟩) (fun _ => rfl) (fun _ => rfl) (by decide +kernel) ?_
  refine hg_aload1 d_O_init_11 ?_
  refine hg_iconst (v := 0) d_O_init_12 (by decide) ?_
  refine hg_aload0 d_O_init_13 ?_
  refine hg_getR d_O_init_14 f_O_7 rfl rfl (by decide +kernel) (by rw [hg_u3s]) ?_
  refine hg_iconst (v := 0) d_O_init_17 (by decide) ?_
  refine hg_iload2 d_O_init_18 ?_
  refine hg_copyI d_O_init_19 l_O_13 rfl rfl (by decide +kernel) rfl rfl (by decide +kernel) (by decide) (by decide) (by decide) (by decide +kernel) (by decide +kernel) (Nat.le_of_ble_eq_true rfl) ?_
  rw [hx_cp0]
  refine hg_aload0 d_O_init_22 ?_
  refine hg_iload3 d_O_init_23 ?_
  refine hg_putI d_O_init_24 f_O_19 rfl rfl (Or.inr ⟨rfl, rfl, rfl⟩) rfl rfl (by decide +kernel) ?_
  refine hg_return d_O_init_27 rfl ?_
  rfl
theorem m_S_init0 (hI2_0 : ∀ j, I 2 0 j = 0) (hRf2_0 : ∀ j, Rf 2 0 j = none) (hI5_0 : ∀ j, I 5 0 j = 0) (hRf5_0 : ∀ j, Rf 5 0 j = none) (hI6_0 : ∀ j, I 6 0 j = 0) (hRf6_0 : ∀ j, Rf 6 0 j = none) (hI3_0 : ∀ j, I 3 0 j = 0) (hRf3_0 : ∀ j, Rf 3 0 j = none) (hI4_0 : ∀ j, I 4 0 j = 0) (hRf4_0 : ∀ j, Rf 4 0 j = none) (hI3_1 : ∀ j, I 3 1 j = 0) (hRf3_1 : ∀ j, Rf 3 1 j = none) (hI4_1 : ∀ j, I 4 1 j = 0) (hRf4_1 : ∀ j, Rf 4 1 j = none) (hI3_2 : ∀ j, I 3 2 j = 0) (hRf3_2 : ∀ j, Rf 3 2 j = none) (hI4_2 : ∀ j, I 4 2 j = 0) (hRf4_2 : ∀ j, Rf 4 2 j = none) (hI3_3 : ∀ j, I 3 3 j = 0) (hRf3_3 : ∀ j, Rf 3 3 j = none) (hI4_3 : ∀ j, I 4 3 j = 0) (hRf4_3 : ∀ j, Rf 4 3 j = none) (hI3_4 : ∀ j, I 3 4 j = 0) (hRf3_4 : ∀ j, Rf 3 4 j = none) (hI4_4 : ∀ j, I 4 4 j = 0) (hRf4_4 : ∀ j, Rf 4 4 j = none) (hI3_5 : ∀ j, I 3 5 j = 0) (hRf3_5 : ∀ j, Rf 3 5 j = none) (hI4_5 : ∀ j, I 4 5 j = 0) (hRf4_5 : ∀ j, Rf 4 5 j = none) : hg_MC l E (d + 2) Y_S_init 15 200 [.ref (hg_ad E 1 0), .ref (hg_ad E 19 0)] (I, hL0, Rf, hxc 30) (hg_v (fun M' => M' = (I, hL0, (hg_u3 (hg_u3 (hg_u3 (hg_u3 (hg_u3 (hg_u3 (hg_u3 (hg_u3 (hg_u3 (hg_u3 (hg_u3 (hg_u3 (hg_u3 (hg_u3 (hg_u3 (hg_u3 Rf 1 0 0 (some (2, 0))) 1 0 1 (some (5, 0))) 1 0 8 (some (6, 0))) 1 0 7 (some (19, 0))) 3 0 7 (some (4, 0))) 2 0 0 (some (3, 0))) 3 1 7 (some (4, 1))) 2 0 1 (some (3, 1))) 3 2 7 (some (4, 2))) 2 0 2 (some (3, 2))) 3 3 7 (some (4, 3))) 2 0 3 (some (3, 3))) 3 4 7 (some (4, 4))) 2 0 4 (some (3, 4))) 3 5 7 (some (4, 5))) 2 0 5 (some (3, 5))), hxc 45))) := by
  refine hg_mc k_S_init (Nat.le_of_ble_eq_true rfl) ?_
  show hg_WP l E _ Y_S_init 15 200 0 [some (.ref (hg_ad E 1 0)), some (.ref (hg_ad E 19 0)), none] [] (I, hL0, Rf, hxc 30) _
  refine hg_aload0 d_S_init_0 ?_
  refine hg_objInit d_S_init_1 l_S_3 ?_
  refine hg_aload0 d_S_init_4 ?_
  refine hg_bipush (v := 6) d_S_init_5 (by decide) ?_
  refine hx_newq (m := 30) (k := 2) (i := 0) (N := 6) (by decide +kernel) d_S_init_7 (hg_in 125 (by decide +kernel) rfl) rfl (Or.inl ⟨rfl, rfl⟩) (by decide) (by decide) (by decide) (by decide) hI2_0 (by intro j; (repeat rw [hg_u3k (by decide)]); exact hRf2_0 j) (by decide) (by decide) ?_
  refine hg_putR d_S_init_10 f_S_11 rfl rfl (Or.inr ⟨rfl, rfl, rfl⟩) (fun _ => rfl) (fun _ => rfl) (by decide +kernel) ?_
  refine hg_aload0 d_S_init_13 ?_
  refine hg_bipush (v := 6) d_S_init_14 (by decide) ?_
  refine hx_newa (m := 31) (k := 5) (i := 0) (N := 6) (by decide +kernel) d_S_init_16 rfl rfl (by decide) hg_ac_int (by decide) (by decide) (by decide) (by decide) hI5_0 (by intro j; (repeat rw [hg_u3k (by decide)]); exact hRf5_0 j) (by decide) (by decide) ?_
  refine hg_putR d_S_init_18 f_S_17 rfl rfl (Or.inr ⟨rfl, rfl, rfl⟩) (fun _ => rfl) (fun _ => rfl) (by decide +kernel) ?_
  refine hg_aload0 d_S_init_21 ?_
  refine hg_bipush (v := 8) d_S_init_22 (by decide) ?_
  refine hx_newa (m := 32) (k := 6) (i := 0) (N := 8) (by decide +kernel) d_S_init_24 rfl rfl (by decide) hg_ac_int (by decide) (by decide) (by decide) (by decide) hI6_0 (by intro j; (repeat rw [hg_u3k (by decide)]); exact hRf6_0 j) (by decide) (by decide) ?_
  refine hg_putR d_S_init_26 f_S_21 rfl rfl (Or.inr ⟨rfl, rfl, rfl⟩) (fun _ => rfl) (fun _ => rfl) (by decide +kernel) ?_
  refine hg_aload0 d_S_init_29 ?_
  refine hg_aload1 d_S_init_30 ?_
  refine hg_putR d_S_init_31 f_S_24 rfl rfl (Or.inl rfl) (fun _ => rfl) (fun _ => rfl) (by decide +kernel) ?_
  refine hg_iconst (v := 0) d_S_init_34 (by decide) ?_
  refine hg_istore2 d_S_init_35 rfl ?_
  refine hg_iload2 d_S_init_36 ?_
  refine hg_bipush (v := 6) d_S_init_37 (by decide) ?_
  refine hg_icmp_ge (tgt := 61) d_S_init_39 (by decide) (fun h_1 => absurd h_1 (by decide)) (fun h_1 => ?_)
  refine hg_aload0 d_S_init_42 ?_
  refine hg_getR d_S_init_43 f_S_11 rfl rfl (by decide +kernel) (by (repeat (first | rw [hg_u3s] | (rw [hg_u3r, if_neg (by decide)]) | rw [hg_u3k (by decide)]))) ?_
  refine hg_iload2 d_S_init_46 ?_
  refine hx_new (m := 33) (k := 3) (i := 0) (by decide +kernel) (by decide) d_S_init_47 n_S_9 rfl hI3_0 (by intro j; (repeat rw [hg_u3k (by decide)]); exact hRf3_0 j) (by decide) (by decide) ?_
  refine hg_dup d_S_init_50 rfl ?_
  refine hg_callN (host := "HangmanDinner") d_S_init_51 k_H_init (by simp [hg_nl]) (hg_in 129 (by decide +kernel) rfl) rfl rfl rfl (Nat.le_of_ble_eq_true rfl) (by decide) (m_H_init (m := 34) (h := 0) (by decide +kernel) (by decide) (by decide +kernel) hI4_0 (by intro j; (repeat rw [hg_u3k (by decide)]); exact hRf4_0 j)) rfl ?_
  rintro _ _ ⟨rfl, rfl⟩
  refine hg_aast d_S_init_54 rfl (Or.inl ⟨rfl, rfl⟩) (by decide +kernel) (hx_in (j := 0) (by decide)) rfl (by decide +kernel) ?_
  show hg_WP l E _ Y_S_init _ _ 55 [some (.ref (hg_ad E 1 0)), some (.ref (hg_ad E 19 0)), some (.int 0)] [] (I, hL0, (hg_u3 (hg_u3 (hg_u3 (hg_u3 (hg_u3 (hg_u3 Rf 1 0 0 (some (2, 0))) 1 0 1 (some (5, 0))) 1 0 8 (some (6, 0))) 1 0 7 (some (19, 0))) 3 0 7 (some (4, 0))) 2 0 0 (some (3, 0))), hxc 35) _
  refine hg_iinc2 (v := 1) d_S_init_55 rfl (by decide) ?_
  refine hg_goto (tgt := 36) d_S_init_58 (by decide) ?_
  refine hg_iload2 d_S_init_36 ?_
  refine hg_bipush (v := 6) d_S_init_37 (by decide) ?_
  refine hg_icmp_ge (tgt := 61) d_S_init_39 (by decide) (fun h_2 => absurd h_2 (by decide)) (fun h_2 => ?_)
  refine hg_aload0 d_S_init_42 ?_
  refine hg_getR d_S_init_43 f_S_11 rfl rfl (by decide +kernel) (by (repeat (first | rw [hg_u3s] | (rw [hg_u3r, if_neg (by decide)]) | rw [hg_u3k (by decide)]))) ?_
  refine hg_iload2 d_S_init_46 ?_
  refine hx_new (m := 35) (k := 3) (i := 1) (by decide +kernel) (by decide) d_S_init_47 n_S_9 rfl hI3_1 (by intro j; (repeat rw [hg_u3k (by decide)]); exact hRf3_1 j) (by decide) (by decide) ?_
  refine hg_dup d_S_init_50 rfl ?_
  refine hg_callN (host := "HangmanDinner") d_S_init_51 k_H_init (by simp [hg_nl]) (hg_in 129 (by decide +kernel) rfl) rfl rfl rfl (Nat.le_of_ble_eq_true rfl) (by decide) (m_H_init (m := 36) (h := 1) (by decide +kernel) (by decide) (by decide +kernel) hI4_1 (by intro j; (repeat rw [hg_u3k (by decide)]); exact hRf4_1 j)) rfl ?_
  rintro _ _ ⟨rfl, rfl⟩
  refine hg_aast d_S_init_54 rfl (Or.inl ⟨rfl, rfl⟩) (by decide +kernel) (hx_in (j := 1) (by decide)) rfl (by decide +kernel) ?_
  show hg_WP l E _ Y_S_init _ _ 55 [some (.ref (hg_ad E 1 0)), some (.ref (hg_ad E 19 0)), some (.int (1))] [] (I, hL0, (hg_u3 (hg_u3 (hg_u3 (hg_u3 (hg_u3 (hg_u3 (hg_u3 (hg_u3 Rf 1 0 0 (some (2, 0))) 1 0 1 (some (5, 0))) 1 0 8 (some (6, 0))) 1 0 7 (some (19, 0))) 3 0 7 (some (4, 0))) 2 0 0 (some (3, 0))) 3 1 7 (some (4, 1))) 2 0 1 (some (3, 1))), hxc 37) _
  refine hg_iinc2 (v := 2) d_S_init_55 rfl (by decide) ?_
  refine hg_goto (tgt := 36) d_S_init_58 (by decide) ?_
  refine hg_iload2 d_S_init_36 ?_
  refine hg_bipush (v := 6) d_S_init_37 (by decide) ?_
  refine hg_icmp_ge (tgt := 61) d_S_init_39 (by decide) (fun h_3 => absurd h_3 (by decide)) (fun h_3 => ?_)
  refine hg_aload0 d_S_init_42 ?_
  refine hg_getR d_S_init_43 f_S_11 rfl rfl (by decide +kernel) (by (repeat (first | rw [hg_u3s] | (rw [hg_u3r, if_neg (by decide)]) | rw [hg_u3k (by decide)]))) ?_
  refine hg_iload2 d_S_init_46 ?_
  refine hx_new (m := 37) (k := 3) (i := 2) (by decide +kernel) (by decide) d_S_init_47 n_S_9 rfl hI3_2 (by intro j; (repeat rw [hg_u3k (by decide)]); exact hRf3_2 j) (by decide) (by decide) ?_
  refine hg_dup d_S_init_50 rfl ?_
  refine hg_callN (host := "HangmanDinner") d_S_init_51 k_H_init (by simp [hg_nl]) (hg_in 129 (by decide +kernel) rfl) rfl rfl rfl (Nat.le_of_ble_eq_true rfl) (by decide) (m_H_init (m := 38) (h := 2) (by decide +kernel) (by decide) (by decide +kernel) hI4_2 (by intro j; (repeat rw [hg_u3k (by decide)]); exact hRf4_2 j)) rfl ?_
  rintro _ _ ⟨rfl, rfl⟩
  refine hg_aast d_S_init_54 rfl (Or.inl ⟨rfl, rfl⟩) (by decide +kernel) (hx_in (j := 2) (by decide)) rfl (by decide +kernel) ?_
  show hg_WP l E _ Y_S_init _ _ 55 [some (.ref (hg_ad E 1 0)), some (.ref (hg_ad E 19 0)), some (.int (2))] [] (I, hL0, (hg_u3 (hg_u3 (hg_u3 (hg_u3 (hg_u3 (hg_u3 (hg_u3 (hg_u3 (hg_u3 (hg_u3 Rf 1 0 0 (some (2, 0))) 1 0 1 (some (5, 0))) 1 0 8 (some (6, 0))) 1 0 7 (some (19, 0))) 3 0 7 (some (4, 0))) 2 0 0 (some (3, 0))) 3 1 7 (some (4, 1))) 2 0 1 (some (3, 1))) 3 2 7 (some (4, 2))) 2 0 2 (some (3, 2))), hxc 39) _
  refine hg_iinc2 (v := 3) d_S_init_55 rfl (by decide) ?_
  refine hg_goto (tgt := 36) d_S_init_58 (by decide) ?_
  refine hg_iload2 d_S_init_36 ?_
  refine hg_bipush (v := 6) d_S_init_37 (by decide) ?_
  refine hg_icmp_ge (tgt := 61) d_S_init_39 (by decide) (fun h_4 => absurd h_4 (by decide)) (fun h_4 => ?_)
  refine hg_aload0 d_S_init_42 ?_
  refine hg_getR d_S_init_43 f_S_11 rfl rfl (by decide +kernel) (by (repeat (first | rw [hg_u3s] | (rw [hg_u3r, if_neg (by decide)]) | rw [hg_u3k (by decide)]))) ?_
  refine hg_iload2 d_S_init_46 ?_
  refine hx_new (m := 39) (k := 3) (i := 3) (by decide +kernel) (by decide) d_S_init_47 n_S_9 rfl hI3_3 (by intro j; (repeat rw [hg_u3k (by decide)]); exact hRf3_3 j) (by decide) (by decide) ?_
  refine hg_dup d_S_init_50 rfl ?_
  refine hg_callN (host := "HangmanDinner") d_S_init_51 k_H_init (by simp [hg_nl]) (hg_in 129 (by decide +kernel) rfl) rfl rfl rfl (Nat.le_of_ble_eq_true rfl) (by decide) (m_H_init (m := 40) (h := 3) (by decide +kernel) (by decide) (by decide +kernel) hI4_3 (by intro j; (repeat rw [hg_u3k (by decide)]); exact hRf4_3 j)) rfl ?_
  rintro _ _ ⟨rfl, rfl⟩
  refine hg_aast d_S_init_54 rfl (Or.inl ⟨rfl, rfl⟩) (by decide +kernel) (hx_in (j := 3) (by decide)) rfl (by decide +kernel) ?_
  show hg_WP l E _ Y_S_init _ _ 55 [some (.ref (hg_ad E 1 0)), some (.ref (hg_ad E 19 0)), some (.int (3))] [] (I, hL0, (hg_u3 (hg_u3 (hg_u3 (hg_u3 (hg_u3 (hg_u3 (hg_u3 (hg_u3 (hg_u3 (hg_u3 (hg_u3 (hg_u3 Rf 1 0 0 (some (2, 0))) 1 0 1 (some (5, 0))) 1 0 8 (some (6, 0))) 1 0 7 (some (19, 0))) 3 0 7 (some (4, 0))) 2 0 0 (some (3, 0))) 3 1 7 (some (4, 1))) 2 0 1 (some (3, 1))) 3 2 7 (some (4, 2))) 2 0 2 (some (3, 2))) 3 3 7 (some (4, 3))) 2 0 3 (some (3, 3))), hxc 41) _
  refine hg_iinc2 (v := 4) d_S_init_55 rfl (by decide) ?_
  refine hg_goto (tgt := 36) d_S_init_58 (by decide) ?_
  refine hg_iload2 d_S_init_36 ?_
  refine hg_bipush (v := 6) d_S_init_37 (by decide) ?_
  refine hg_icmp_ge (tgt := 61) d_S_init_39 (by decide) (fun h_5 => absurd h_5 (by decide)) (fun h_5 => ?_)
  refine hg_aload0 d_S_init_42 ?_
  refine hg_getR d_S_init_43 f_S_11 rfl rfl (by decide +kernel) (by (repeat (first | rw [hg_u3s] | (rw [hg_u3r, if_neg (by decide)]) | rw [hg_u3k (by decide)]))) ?_
  refine hg_iload2 d_S_init_46 ?_
  refine hx_new (m := 41) (k := 3) (i := 4) (by decide +kernel) (by decide) d_S_init_47 n_S_9 rfl hI3_4 (by intro j; (repeat rw [hg_u3k (by decide)]); exact hRf3_4 j) (by decide) (by decide) ?_
  refine hg_dup d_S_init_50 rfl ?_
  refine hg_callN (host := "HangmanDinner") d_S_init_51 k_H_init (by simp [hg_nl]) (hg_in 129 (by decide +kernel) rfl) rfl rfl rfl (Nat.le_of_ble_eq_true rfl) (by decide) (m_H_init (m := 42) (h := 4) (by decide +kernel) (by decide) (by decide +kernel) hI4_4 (by intro j; (repeat rw [hg_u3k (by decide)]); exact hRf4_4 j)) rfl ?_
  rintro _ _ ⟨rfl, rfl⟩
  refine hg_aast d_S_init_54 rfl (Or.inl ⟨rfl, rfl⟩) (by decide +kernel) (hx_in (j := 4) (by decide)) rfl (by decide +kernel) ?_
  show hg_WP l E _ Y_S_init _ _ 55 [some (.ref (hg_ad E 1 0)), some (.ref (hg_ad E 19 0)), some (.int (4))] [] (I, hL0, (hg_u3 (hg_u3 (hg_u3 (hg_u3 (hg_u3 (hg_u3 (hg_u3 (hg_u3 (hg_u3 (hg_u3 (hg_u3 (hg_u3 (hg_u3 (hg_u3 Rf 1 0 0 (some (2, 0))) 1 0 1 (some (5, 0))) 1 0 8 (some (6, 0))) 1 0 7 (some (19, 0))) 3 0 7 (some (4, 0))) 2 0 0 (some (3, 0))) 3 1 7 (some (4, 1))) 2 0 1 (some (3, 1))) 3 2 7 (some (4, 2))) 2 0 2 (some (3, 2))) 3 3 7 (some (4, 3))) 2 0 3 (some (3, 3))) 3 4 7 (some (4, 4))) 2 0 4 (some (3, 4))), hxc 43) _
  refine hg_iinc2 (v := 5) d_S_init_55 rfl (by decide) ?_
  refine hg_goto (tgt := 36) d_S_init_58 (by decide) ?_
  refine hg_iload2 d_S_init_36 ?_
  refine hg_bipush (v := 6) d_S_init_37 (by decide) ?_
  refine hg_icmp_ge (tgt := 61) d_S_init_39 (by decide) (fun h_6 => absurd h_6 (by decide)) (fun h_6 => ?_)
  refine hg_aload0 d_S_init_42 ?_
  refine hg_getR d_S_init_43 f_S_11 rfl rfl (by decide +kernel) (by (repeat (first | rw [hg_u3s] | (rw [hg_u3r, if_neg (by decide)]) | rw [hg_u3k (by decide)]))) ?_
  refine hg_iload2 d_S_init_46 ?_
  refine hx_new (m := 43) (k := 3) (i := 5) (by decide +kernel) (by decide) d_S_init_47 n_S_9 rfl hI3_5 (by intro j; (repeat rw [hg_u3k (by decide)]); exact hRf3_5 j) (by decide) (by decide) ?_
  refine hg_dup d_S_init_50 rfl ?_
  refine hg_callN (host := "HangmanDinner") d_S_init_51 k_H_init (by simp [hg_nl]) (hg_in 129 (by decide +kernel) rfl) rfl rfl rfl (Nat.le_of_ble_eq_true rfl) (by decide) (m_H_init (m := 44) (h := 5) (by decide +kernel) (by decide) (by decide +kernel) hI4_5 (by intro j; (repeat rw [hg_u3k (by decide)]); exact hRf4_5 j)) rfl ?_
  rintro _ _ ⟨rfl, rfl⟩
  refine hg_aast d_S_init_54 rfl (Or.inl ⟨rfl, rfl⟩) (by decide +kernel) (hx_in (j := 5) (by decide)) rfl (by decide +kernel) ?_
  show hg_WP l E _ Y_S_init _ _ 55 [some (.ref (hg_ad E 1 0)), some (.ref (hg_ad E 19 0)), some (.int (5))] [] (I, hL0, (hg_u3 (hg_u3 (hg_u3 (hg_u3 (hg_u3 (hg_u3 (hg_u3 (hg_u3 (hg_u3 (hg_u3 (hg_u3 (hg_u3 (hg_u3 (hg_u3 (hg_u3 (hg_u3 Rf 1 0 0 (some (2, 0))) 1 0 1 (some (5, 0))) 1 0 8 (some (6, 0))) 1 0 7 (some (19, 0))) 3 0 7 (some (4, 0))) 2 0 0 (some (3, 0))) 3 1 7 (some (4, 1))) 2 0 1 (some (3, 1))) 3 2 7 (some (4, 2))) 2 0 2 (some (3, 2))) 3 3 7 (some (4, 3))) 2 0 3 (some (3, 3))) 3 4 7 (some (4, 4))) 2 0 4 (some (3, 4))) 3 5 7 (some (4, 5))) 2 0 5 (some (3, 5))), hxc 45) _
  refine hg_iinc2 (v := 6) d_S_init_55 rfl (by decide) ?_
  refine hg_goto (tgt := 36) d_S_init_58 (by decide) ?_
  refine hg_iload2 d_S_init_36 ?_
  refine hg_bipush (v := 6) d_S_init_37 (by decide) ?_
  refine hg_icmp_ge (tgt := 61) d_S_init_39 (by decide) (fun h_7 => ?_) (fun h_7 => absurd (by decide) h_7)
  refine hg_return d_S_init_61 rfl ?_
  rfl
theorem m_S_init1 (hI2_1 : ∀ j, I 2 1 j = 0) (hRf2_1 : ∀ j, Rf 2 1 j = none) (hI5_1 : ∀ j, I 5 1 j = 0) (hRf5_1 : ∀ j, Rf 5 1 j = none) (hI6_1 : ∀ j, I 6 1 j = 0) (hRf6_1 : ∀ j, Rf 6 1 j = none) (hI3_6 : ∀ j, I 3 6 j = 0) (hRf3_6 : ∀ j, Rf 3 6 j = none) (hI4_6 : ∀ j, I 4 6 j = 0) (hRf4_6 : ∀ j, Rf 4 6 j = none) (hI3_7 : ∀ j, I 3 7 j = 0) (hRf3_7 : ∀ j, Rf 3 7 j = none) (hI4_7 : ∀ j, I 4 7 j = 0) (hRf4_7 : ∀ j, Rf 4 7 j = none) (hI3_8 : ∀ j, I 3 8 j = 0) (hRf3_8 : ∀ j, Rf 3 8 j = none) (hI4_8 : ∀ j, I 4 8 j = 0) (hRf4_8 : ∀ j, Rf 4 8 j = none) (hI3_9 : ∀ j, I 3 9 j = 0) (hRf3_9 : ∀ j, Rf 3 9 j = none) (hI4_9 : ∀ j, I 4 9 j = 0) (hRf4_9 : ∀ j, Rf 4 9 j = none) (hI3_10 : ∀ j, I 3 10 j = 0) (hRf3_10 : ∀ j, Rf 3 10 j = none) (hI4_10 : ∀ j, I 4 10 j = 0) (hRf4_10 : ∀ j, Rf 4 10 j = none) (hI3_11 : ∀ j, I 3 11 j = 0) (hRf3_11 : ∀ j, Rf 3 11 j = none) (hI4_11 : ∀ j, I 4 11 j = 0) (hRf4_11 : ∀ j, Rf 4 11 j = none) : hg_MC l E (d + 2) Y_S_init 15 200 [.ref (hg_ad E 1 1), .ref (hg_ad E 19 0)] (I, hL0, Rf, hxc 46) (hg_v (fun M' => M' = (I, hL0, (hg_u3 (hg_u3 (hg_u3 (hg_u3 (hg_u3 (hg_u3 (hg_u3 (hg_u3 (hg_u3 (hg_u3 (hg_u3 (hg_u3 (hg_u3 (hg_u3 (hg_u3 (hg_u3 Rf 1 1 0 (some (2, 1))) 1 1 1 (some (5, 1))) 1 1 8 (some (6, 1))) 1 1 7 (some (19, 0))) 3 6 7 (some (4, 6))) 2 1 0 (some (3, 6))) 3 7 7 (some (4, 7))) 2 1 1 (some (3, 7))) 3 8 7 (some (4, 8))) 2 1 2 (some (3, 8))) 3 9 7 (some (4, 9))) 2 1 3 (some (3, 9))) 3 10 7 (some (4, 10))) 2 1 4 (some (3, 10))) 3 11 7 (some (4, 11))) 2 1 5 (some (3, 11))), hxc 61))) := by
  refine hg_mc k_S_init (Nat.le_of_ble_eq_true rfl) ?_
  show hg_WP l E _ Y_S_init 15 200 0 [some (.ref (hg_ad E 1 1)), some (.ref (hg_ad E 19 0)), none] [] (I, hL0, Rf, hxc 46) _
  refine hg_aload0 d_S_init_0 ?_
  refine hg_objInit d_S_init_1 l_S_3 ?_
  refine hg_aload0 d_S_init_4 ?_
  refine hg_bipush (v := 6) d_S_init_5 (by decide) ?_
  refine hx_newq (m := 46) (k := 2) (i := 1) (N := 6) (by decide +kernel) d_S_init_7 (hg_in 125 (by decide +kernel) rfl) rfl (Or.inl ⟨rfl, rfl⟩) (by decide) (by decide) (by decide) (by decide) hI2_1 (by intro j; (repeat rw [hg_u3k (by decide)]); exact hRf2_1 j) (by decide) (by decide) ?_
  refine hg_putR d_S_init_10 f_S_11 rfl rfl (Or.inr ⟨rfl, rfl, rfl⟩) (fun _ => rfl) (fun _ => rfl) (by decide +kernel) ?_
  refine hg_aload0 d_S_init_13 ?_
  refine hg_bipush (v := 6) d_S_init_14 (by decide) ?_
  refine hx_newa (m := 47) (k := 5) (i := 1) (N := 6) (by decide +kernel) d_S_init_16 rfl rfl (by decide) hg_ac_int (by decide) (by decide) (by decide) (by decide) hI5_1 (by intro j; (repeat rw [hg_u3k (by decide)]); exact hRf5_1 j) (by decide) (by decide) ?_
  refine hg_putR d_S_init_18 f_S_17 rfl rfl (Or.inr ⟨rfl, rfl, rfl⟩) (fun _ => rfl) (fun _ => rfl) (by decide +kernel) ?_
  refine hg_aload0 d_S_init_21 ?_
  refine hg_bipush (v := 8) d_S_init_22 (by decide) ?_
  refine hx_newa (m := 48) (k := 6) (i := 1) (N := 8) (by decide +kernel) d_S_init_24 rfl rfl (by decide) hg_ac_int (by decide) (by decide) (by decide) (by decide) hI6_1 (by intro j; (repeat rw [hg_u3k (by decide)]); exact hRf6_1 j) (by decide) (by decide) ?_
  refine hg_putR d_S_init_26 f_S_21 rfl rfl (Or.inr ⟨rfl, rfl, rfl⟩) (fun _ => rfl) (fun _ => rfl) (by decide +kernel) ?_
  refine hg_aload0 d_S_init_29 ?_
  refine hg_aload1 d_S_init_30 ?_
  refine hg_putR d_S_init_31 f_S_24 rfl rfl (Or.inl rfl) (fun _ => rfl) (fun _ => rfl) (by decide +kernel) ?_
  refine hg_iconst (v := 0) d_S_init_34 (by decide) ?_
  refine hg_istore2 d_S_init_35 rfl ?_
  refine hg_iload2 d_S_init_36 ?_
  refine hg_bipush (v := 6) d_S_init_37 (by decide) ?_
  refine hg_icmp_ge (tgt := 61) d_S_init_39 (by decide) (fun h_1 => absurd h_1 (by decide)) (fun h_1 => ?_)
  refine hg_aload0 d_S_init_42 ?_
  refine hg_getR d_S_init_43 f_S_11 rfl rfl (by decide +kernel) (by (repeat (first | rw [hg_u3s] | (rw [hg_u3r, if_neg (by decide)]) | rw [hg_u3k (by decide)]))) ?_
  refine hg_iload2 d_S_init_46 ?_
  refine hx_new (m := 49) (k := 3) (i := 6) (by decide +kernel) (by decide) d_S_init_47 n_S_9 rfl hI3_6 (by intro j; (repeat rw [hg_u3k (by decide)]); exact hRf3_6 j) (by decide) (by decide) ?_
  refine hg_dup d_S_init_50 rfl ?_
  refine hg_callN (host := "HangmanDinner") d_S_init_51 k_H_init (by simp [hg_nl]) (hg_in 129 (by decide +kernel) rfl) rfl rfl rfl (Nat.le_of_ble_eq_true rfl) (by decide) (m_H_init (m := 50) (h := 6) (by decide +kernel) (by decide) (by decide +kernel) hI4_6 (by intro j; (repeat rw [hg_u3k (by decide)]); exact hRf4_6 j)) rfl ?_
  rintro _ _ ⟨rfl, rfl⟩
  refine hg_aast d_S_init_54 rfl (Or.inl ⟨rfl, rfl⟩) (by decide +kernel) (hx_in (j := 0) (by decide)) rfl (by decide +kernel) ?_
  show hg_WP l E _ Y_S_init _ _ 55 [some (.ref (hg_ad E 1 1)), some (.ref (hg_ad E 19 0)), some (.int 0)] [] (I, hL0, (hg_u3 (hg_u3 (hg_u3 (hg_u3 (hg_u3 (hg_u3 Rf 1 1 0 (some (2, 1))) 1 1 1 (some (5, 1))) 1 1 8 (some (6, 1))) 1 1 7 (some (19, 0))) 3 6 7 (some (4, 6))) 2 1 0 (some (3, 6))), hxc 51) _
  refine hg_iinc2 (v := 1) d_S_init_55 rfl (by decide) ?_
  refine hg_goto (tgt := 36) d_S_init_58 (by decide) ?_
  refine hg_iload2 d_S_init_36 ?_
  refine hg_bipush (v := 6) d_S_init_37 (by decide) ?_
  refine hg_icmp_ge (tgt := 61) d_S_init_39 (by decide) (fun h_2 => absurd h_2 (by decide)) (fun h_2 => ?_)
  refine hg_aload0 d_S_init_42 ?_
  refine hg_getR d_S_init_43 f_S_11 rfl rfl (by decide +kernel) (by (repeat (first | rw [hg_u3s] | (rw [hg_u3r, if_neg (by decide)]) | rw [hg_u3k (by decide)]))) ?_
  refine hg_iload2 d_S_init_46 ?_
  refine hx_new (m := 51) (k := 3) (i := 7) (by decide +kernel) (by decide) d_S_init_47 n_S_9 rfl hI3_7 (by intro j; (repeat rw [hg_u3k (by decide)]); exact hRf3_7 j) (by decide) (by decide) ?_
  refine hg_dup d_S_init_50 rfl ?_
  refine hg_callN (host := "HangmanDinner") d_S_init_51 k_H_init (by simp [hg_nl]) (hg_in 129 (by decide +kernel) rfl) rfl rfl rfl (Nat.le_of_ble_eq_true rfl) (by decide) (m_H_init (m := 52) (h := 7) (by decide +kernel) (by decide) (by decide +kernel) hI4_7 (by intro j; (repeat rw [hg_u3k (by decide)]); exact hRf4_7 j)) rfl ?_
  rintro _ _ ⟨rfl, rfl⟩
  refine hg_aast d_S_init_54 rfl (Or.inl ⟨rfl, rfl⟩) (by decide +kernel) (hx_in (j := 1) (by decide)) rfl (by decide +kernel) ?_
  show hg_WP l E _ Y_S_init _ _ 55 [some (.ref (hg_ad E 1 1)), some (.ref (hg_ad E 19 0)), some (.int (1))] [] (I, hL0, (hg_u3 (hg_u3 (hg_u3 (hg_u3 (hg_u3 (hg_u3 (hg_u3 (hg_u3 Rf 1 1 0 (some (2, 1))) 1 1 1 (some (5, 1))) 1 1 8 (some (6, 1))) 1 1 7 (some (19, 0))) 3 6 7 (some (4, 6))) 2 1 0 (some (3, 6))) 3 7 7 (some (4, 7))) 2 1 1 (some (3, 7))), hxc 53) _
  refine hg_iinc2 (v := 2) d_S_init_55 rfl (by decide) ?_
  refine hg_goto (tgt := 36) d_S_init_58 (by decide) ?_
  refine hg_iload2 d_S_init_36 ?_
  refine hg_bipush (v := 6) d_S_init_37 (by decide) ?_
  refine hg_icmp_ge (tgt := 61) d_S_init_39 (by decide) (fun h_3 => absurd h_3 (by decide)) (fun h_3 => ?_)
  refine hg_aload0 d_S_init_42 ?_
  refine hg_getR d_S_init_43 f_S_11 rfl rfl (by decide +kernel) (by (repeat (first | rw [hg_u3s] | (rw [hg_u3r, if_neg (by decide)]) | rw [hg_u3k (by decide)]))) ?_
  refine hg_iload2 d_S_init_46 ?_
  refine hx_new (m := 53) (k := 3) (i := 8) (by decide +kernel) (by decide) d_S_init_47 n_S_9 rfl hI3_8 (by intro j; (repeat rw [hg_u3k (by decide)]); exact hRf3_8 j) (by decide) (by decide) ?_
  refine hg_dup d_S_init_50 rfl ?_
  refine hg_callN (host := "HangmanDinner") d_S_init_51 k_H_init (by simp [hg_nl]) (hg_in 129 (by decide +kernel) rfl) rfl rfl rfl (Nat.le_of_ble_eq_true rfl) (by decide) (m_H_init (m := 54) (h := 8) (by decide +kernel) (by decide) (by decide +kernel) hI4_8 (by intro j; (repeat rw [hg_u3k (by decide)]); exact hRf4_8 j)) rfl ?_
  rintro _ _ ⟨rfl, rfl⟩
  refine hg_aast d_S_init_54 rfl (Or.inl ⟨rfl, rfl⟩) (by decide +kernel) (hx_in (j := 2) (by decide)) rfl (by decide +kernel) ?_
  show hg_WP l E _ Y_S_init _ _ 55 [some (.ref (hg_ad E 1 1)), some (.ref (hg_ad E 19 0)), some (.int (2))] [] (I, hL0, (hg_u3 (hg_u3 (hg_u3 (hg_u3 (hg_u3 (hg_u3 (hg_u3 (hg_u3 (hg_u3 (hg_u3 Rf 1 1 0 (some (2, 1))) 1 1 1 (some (5, 1))) 1 1 8 (some (6, 1))) 1 1 7 (some (19, 0))) 3 6 7 (some (4, 6))) 2 1 0 (some (3, 6))) 3 7 7 (some (4, 7))) 2 1 1 (some (3, 7))) 3 8 7 (some (4, 8))) 2 1 2 (some (3, 8))), hxc 55) _
  refine hg_iinc2 (v := 3) d_S_init_55 rfl (by decide) ?_
  refine hg_goto (tgt := 36) d_S_init_58 (by decide) ?_
  refine hg_iload2 d_S_init_36 ?_
  refine hg_bipush (v := 6) d_S_init_37 (by decide) ?_
  refine hg_icmp_ge (tgt := 61) d_S_init_39 (by decide) (fun h_4 => absurd h_4 (by decide)) (fun h_4 => ?_)
  refine hg_aload0 d_S_init_42 ?_
  refine hg_getR d_S_init_43 f_S_11 rfl rfl (by decide +kernel) (by (repeat (first | rw [hg_u3s] | (rw [hg_u3r, if_neg (by decide)]) | rw [hg_u3k (by decide)]))) ?_
  refine hg_iload2 d_S_init_46 ?_
  refine hx_new (m := 55) (k := 3) (i := 9) (by decide +kernel) (by decide) d_S_init_47 n_S_9 rfl hI3_9 (by intro j; (repeat rw [hg_u3k (by decide)]); exact hRf3_9 j) (by decide) (by decide) ?_
  refine hg_dup d_S_init_50 rfl ?_
  refine hg_callN (host := "HangmanDinner") d_S_init_51 k_H_init (by simp [hg_nl]) (hg_in 129 (by decide +kernel) rfl) rfl rfl rfl (Nat.le_of_ble_eq_true rfl) (by decide) (m_H_init (m := 56) (h := 9) (by decide +kernel) (by decide) (by decide +kernel) hI4_9 (by intro j; (repeat rw [hg_u3k (by decide)]); exact hRf4_9 j)) rfl ?_
  rintro _ _ ⟨rfl, rfl⟩
  refine hg_aast d_S_init_54 rfl (Or.inl ⟨rfl, rfl⟩) (by decide +kernel) (hx_in (j := 3) (by decide)) rfl (by decide +kernel) ?_
  show hg_WP l E _ Y_S_init _ _ 55 [some (.ref (hg_ad E 1 1)), some (.ref (hg_ad E 19 0)), some (.int (3))] [] (I, hL0, (hg_u3 (hg_u3 (hg_u3 (hg_u3 (hg_u3 (hg_u3 (hg_u3 (hg_u3 (hg_u3 (hg_u3 (hg_u3 (hg_u3 Rf 1 1 0 (some (2, 1))) 1 1 1 (some (5, 1))) 1 1 8 (some (6, 1))) 1 1 7 (some (19, 0))) 3 6 7 (some (4, 6))) 2 1 0 (some (3, 6))) 3 7 7 (some (4, 7))) 2 1 1 (some (3, 7))) 3 8 7 (some (4, 8))) 2 1 2 (some (3, 8))) 3 9 7 (some (4, 9))) 2 1 3 (some (3, 9))), hxc 57) _
  refine hg_iinc2 (v := 4) d_S_init_55 rfl (by decide) ?_
  refine hg_goto (tgt := 36) d_S_init_58 (by decide) ?_
  refine hg_iload2 d_S_init_36 ?_
  refine hg_bipush (v := 6) d_S_init_37 (by decide) ?_
  refine hg_icmp_ge (tgt := 61) d_S_init_39 (by decide) (fun h_5 => absurd h_5 (by decide)) (fun h_5 => ?_)
  refine hg_aload0 d_S_init_42 ?_
  refine hg_getR d_S_init_43 f_S_11 rfl rfl (by decide +kernel) (by (repeat (first | rw [hg_u3s] | (rw [hg_u3r, if_neg (by decide)]) | rw [hg_u3k (by decide)]))) ?_
  refine hg_iload2 d_S_init_46 ?_
  refine hx_new (m := 57) (k := 3) (i := 10) (by decide +kernel) (by decide) d_S_init_47 n_S_9 rfl hI3_10 (by intro j; (repeat rw [hg_u3k (by decide)]); exact hRf3_10 j) (by decide) (by decide) ?_
  refine hg_dup d_S_init_50 rfl ?_
  refine hg_callN (host := "HangmanDinner") d_S_init_51 k_H_init (by simp [hg_nl]) (hg_in 129 (by decide +kernel) rfl) rfl rfl rfl (Nat.le_of_ble_eq_true rfl) (by decide) (m_H_init (m := 58) (h := 10) (by decide +kernel) (by decide) (by decide +kernel) hI4_10 (by intro j; (repeat rw [hg_u3k (by decide)]); exact hRf4_10 j)) rfl ?_
  rintro _ _ ⟨rfl, rfl⟩
  refine hg_aast d_S_init_54 rfl (Or.inl ⟨rfl, rfl⟩) (by decide +kernel) (hx_in (j := 4) (by decide)) rfl (by decide +kernel) ?_
  show hg_WP l E _ Y_S_init _ _ 55 [some (.ref (hg_ad E 1 1)), some (.ref (hg_ad E 19 0)), some (.int (4))] [] (I, hL0, (hg_u3 (hg_u3 (hg_u3 (hg_u3 (hg_u3 (hg_u3 (hg_u3 (hg_u3 (hg_u3 (hg_u3 (hg_u3 (hg_u3 (hg_u3 (hg_u3 Rf 1 1 0 (some (2, 1))) 1 1 1 (some (5, 1))) 1 1 8 (some (6, 1))) 1 1 7 (some (19, 0))) 3 6 7 (some (4, 6))) 2 1 0 (some (3, 6))) 3 7 7 (some (4, 7))) 2 1 1 (some (3, 7))) 3 8 7 (some (4, 8))) 2 1 2 (some (3, 8))) 3 9 7 (some (4, 9))) 2 1 3 (some (3, 9))) 3 10 7 (some (4, 10))) 2 1 4 (some (3, 10))), hxc 59) _
  refine hg_iinc2 (v := 5) d_S_init_55 rfl (by decide) ?_
  refine hg_goto (tgt := 36) d_S_init_58 (by decide) ?_
  refine hg_iload2 d_S_init_36 ?_
  refine hg_bipush (v := 6) d_S_init_37 (by decide) ?_
  refine hg_icmp_ge (tgt := 61) d_S_init_39 (by decide) (fun h_6 => absurd h_6 (by decide)) (fun h_6 => ?_)
  refine hg_aload0 d_S_init_42 ?_
  refine hg_getR d_S_init_43 f_S_11 rfl rfl (by decide +kernel) (by (repeat (first | rw [hg_u3s] | (rw [hg_u3r, if_neg (by decide)]) | rw [hg_u3k (by decide)]))) ?_
  refine hg_iload2 d_S_init_46 ?_
  refine hx_new (m := 59) (k := 3) (i := 11) (by decide +kernel) (by decide) d_S_init_47 n_S_9 rfl hI3_11 (by intro j; (repeat rw [hg_u3k (by decide)]); exact hRf3_11 j) (by decide) (by decide) ?_
  refine hg_dup d_S_init_50 rfl ?_
  refine hg_callN (host := "HangmanDinner") d_S_init_51 k_H_init (by simp [hg_nl]) (hg_in 129 (by decide +kernel) rfl) rfl rfl rfl (Nat.le_of_ble_eq_true rfl) (by decide) (m_H_init (m := 60) (h := 11) (by decide +kernel) (by decide) (by decide +kernel) hI4_11 (by intro j; (repeat rw [hg_u3k (by decide)]); exact hRf4_11 j)) rfl ?_
  rintro _ _ ⟨rfl, rfl⟩
  refine hg_aast d_S_init_54 rfl (Or.inl ⟨rfl, rfl⟩) (by decide +kernel) (hx_in (j := 5) (by decide)) rfl (by decide +kernel) ?_
  show hg_WP l E _ Y_S_init _ _ 55 [some (.ref (hg_ad E 1 1)), some (.ref (hg_ad E 19 0)), some (.int (5))] [] (I, hL0, (hg_u3 (hg_u3 (hg_u3 (hg_u3 (hg_u3 (hg_u3 (hg_u3 (hg_u3 (hg_u3 (hg_u3 (hg_u3 (hg_u3 (hg_u3 (hg_u3 (hg_u3 (hg_u3 Rf 1 1 0 (some (2, 1))) 1 1 1 (some (5, 1))) 1 1 8 (some (6, 1))) 1 1 7 (some (19, 0))) 3 6 7 (some (4, 6))) 2 1 0 (some (3, 6))) 3 7 7 (some (4, 7))) 2 1 1 (some (3, 7))) 3 8 7 (some (4, 8))) 2 1 2 (some (3, 8))) 3 9 7 (some (4, 9))) 2 1 3 (some (3, 9))) 3 10 7 (some (4, 10))) 2 1 4 (some (3, 10))) 3 11 7 (some (4, 11))) 2 1 5 (some (3, 11))), hxc 61) _
  refine hg_iinc2 (v := 6) d_S_init_55 rfl (by decide) ?_
  refine hg_goto (tgt := 36) d_S_init_58 (by decide) ?_
  refine hg_iload2 d_S_init_36 ?_
  refine hg_bipush (v := 6) d_S_init_37 (by decide) ?_
  refine hg_icmp_ge (tgt := 61) d_S_init_39 (by decide) (fun h_7 => ?_) (fun h_7 => absurd (by decide) h_7)
  refine hg_return d_S_init_61 rfl ?_
  rfl
theorem m_S_init2 (hI2_2 : ∀ j, I 2 2 j = 0) (hRf2_2 : ∀ j, Rf 2 2 j = none) (hI5_2 : ∀ j, I 5 2 j = 0) (hRf5_2 : ∀ j, Rf 5 2 j = none) (hI6_2 : ∀ j, I 6 2 j = 0) (hRf6_2 : ∀ j, Rf 6 2 j = none) (hI3_12 : ∀ j, I 3 12 j = 0) (hRf3_12 : ∀ j, Rf 3 12 j = none) (hI4_12 : ∀ j, I 4 12 j = 0) (hRf4_12 : ∀ j, Rf 4 12 j = none) (hI3_13 : ∀ j, I 3 13 j = 0) (hRf3_13 : ∀ j, Rf 3 13 j = none) (hI4_13 : ∀ j, I 4 13 j = 0) (hRf4_13 : ∀ j, Rf 4 13 j = none) (hI3_14 : ∀ j, I 3 14 j = 0) (hRf3_14 : ∀ j, Rf 3 14 j = none) (hI4_14 : ∀ j, I 4 14 j = 0) (hRf4_14 : ∀ j, Rf 4 14 j = none) (hI3_15 : ∀ j, I 3 15 j = 0) (hRf3_15 : ∀ j, Rf 3 15 j = none) (hI4_15 : ∀ j, I 4 15 j = 0) (hRf4_15 : ∀ j, Rf 4 15 j = none) (hI3_16 : ∀ j, I 3 16 j = 0) (hRf3_16 : ∀ j, Rf 3 16 j = none) (hI4_16 : ∀ j, I 4 16 j = 0) (hRf4_16 : ∀ j, Rf 4 16 j = none) (hI3_17 : ∀ j, I 3 17 j = 0) (hRf3_17 : ∀ j, Rf 3 17 j = none) (hI4_17 : ∀ j, I 4 17 j = 0) (hRf4_17 : ∀ j, Rf 4 17 j = none) : hg_MC l E (d + 2) Y_S_init 15 200 [.ref (hg_ad E 1 2), .ref (hg_ad E 19 0)] (I, hL0, Rf, hxc 62) (hg_v (fun M' => M' = (I, hL0, (hg_u3 (hg_u3 (hg_u3 (hg_u3 (hg_u3 (hg_u3 (hg_u3 (hg_u3 (hg_u3 (hg_u3 (hg_u3 (hg_u3 (hg_u3 (hg_u3 (hg_u3 (hg_u3 Rf 1 2 0 (some (2, 2))) 1 2 1 (some (5, 2))) 1 2 8 (some (6, 2))) 1 2 7 (some (19, 0))) 3 12 7 (some (4, 12))) 2 2 0 (some (3, 12))) 3 13 7 (some (4, 13))) 2 2 1 (some (3, 13))) 3 14 7 (some (4, 14))) 2 2 2 (some (3, 14))) 3 15 7 (some (4, 15))) 2 2 3 (some (3, 15))) 3 16 7 (some (4, 16))) 2 2 4 (some (3, 16))) 3 17 7 (some (4, 17))) 2 2 5 (some (3, 17))), hxc 77))) := by
  refine hg_mc k_S_init (Nat.le_of_ble_eq_true rfl) ?_
  show hg_WP l E _ Y_S_init 15 200 0 [some (.ref (hg_ad E 1 2)), some (.ref (hg_ad E 19 0)), none] [] (I, hL0, Rf, hxc 62) _
  refine hg_aload0 d_S_init_0 ?_
  refine hg_objInit d_S_init_1 l_S_3 ?_
  refine hg_aload0 d_S_init_4 ?_
  refine hg_bipush (v := 6) d_S_init_5 (by decide) ?_
  refine hx_newq (m := 62) (k := 2) (i := 2) (N := 6) (by decide +kernel) d_S_init_7 (hg_in 125 (by decide +kernel) rfl) rfl (Or.inl ⟨rfl, rfl⟩) (by decide) (by decide) (by decide) (by decide) hI2_2 (by intro j; (repeat rw [hg_u3k (by decide)]); exact hRf2_2 j) (by decide) (by decide) ?_
  refine hg_putR d_S_init_10 f_S_11 rfl rfl (Or.inr ⟨rfl, rfl, rfl⟩) (fun _ => rfl) (fun _ => rfl) (by decide +kernel) ?_
  refine hg_aload0 d_S_init_13 ?_
  refine hg_bipush (v := 6) d_S_init_14 (by decide) ?_
  refine hx_newa (m := 63) (k := 5) (i := 2) (N := 6) (by decide +kernel) d_S_init_16 rfl rfl (by decide) hg_ac_int (by decide) (by decide) (by decide) (by decide) hI5_2 (by intro j; (repeat rw [hg_u3k (by decide)]); exact hRf5_2 j) (by decide) (by decide) ?_
  refine hg_putR d_S_init_18 f_S_17 rfl rfl (Or.inr ⟨rfl, rfl, rfl⟩) (fun _ => rfl) (fun _ => rfl) (by decide +kernel) ?_
  refine hg_aload0 d_S_init_21 ?_
  refine hg_bipush (v := 8) d_S_init_22 (by decide) ?_
  refine hx_newa (m := 64) (k := 6) (i := 2) (N := 8) (by decide +kernel) d_S_init_24 rfl rfl (by decide) hg_ac_int (by decide) (by decide) (by decide) (by decide) hI6_2 (by intro j; (repeat rw [hg_u3k (by decide)]); exact hRf6_2 j) (by decide) (by decide) ?_
  refine hg_putR d_S_init_26 f_S_21 rfl rfl (Or.inr ⟨rfl, rfl, rfl⟩) (fun _ => rfl) (fun _ => rfl) (by decide +kernel) ?_
  refine hg_aload0 d_S_init_29 ?_
  refine hg_aload1 d_S_init_30 ?_
  refine hg_putR d_S_init_31 f_S_24 rfl rfl (Or.inl rfl) (fun _ => rfl) (fun _ => rfl) (by decide +kernel) ?_
  refine hg_iconst (v := 0) d_S_init_34 (by decide) ?_
  refine hg_istore2 d_S_init_35 rfl ?_
  refine hg_iload2 d_S_init_36 ?_
  refine hg_bipush (v := 6) d_S_init_37 (by decide) ?_
  refine hg_icmp_ge (tgt := 61) d_S_init_39 (by decide) (fun h_1 => absurd h_1 (by decide)) (fun h_1 => ?_)
  refine hg_aload0 d_S_init_42 ?_
  refine hg_getR d_S_init_43 f_S_11 rfl rfl (by decide +kernel) (by (repeat (first | rw [hg_u3s] | (rw [hg_u3r, if_neg (by decide)]) | rw [hg_u3k (by decide)]))) ?_
  refine hg_iload2 d_S_init_46 ?_
  refine hx_new (m := 65) (k := 3) (i := 12) (by decide +kernel) (by decide) d_S_init_47 n_S_9 rfl hI3_12 (by intro j; (repeat rw [hg_u3k (by decide)]); exact hRf3_12 j) (by decide) (by decide) ?_
  refine hg_dup d_S_init_50 rfl ?_
  refine hg_callN (host := "HangmanDinner") d_S_init_51 k_H_init (by simp [hg_nl]) (hg_in 129 (by decide +kernel) rfl) rfl rfl rfl (Nat.le_of_ble_eq_true rfl) (by decide) (m_H_init (m := 66) (h := 12) (by decide +kernel) (by decide) (by decide +kernel) hI4_12 (by intro j; (repeat rw [hg_u3k (by decide)]); exact hRf4_12 j)) rfl ?_
  rintro _ _ ⟨rfl, rfl⟩
  refine hg_aast d_S_init_54 rfl (Or.inl ⟨rfl, rfl⟩) (by decide +kernel) (hx_in (j := 0) (by decide)) rfl (by decide +kernel) ?_
  show hg_WP l E _ Y_S_init _ _ 55 [some (.ref (hg_ad E 1 2)), some (.ref (hg_ad E 19 0)), some (.int 0)] [] (I, hL0, (hg_u3 (hg_u3 (hg_u3 (hg_u3 (hg_u3 (hg_u3 Rf 1 2 0 (some (2, 2))) 1 2 1 (some (5, 2))) 1 2 8 (some (6, 2))) 1 2 7 (some (19, 0))) 3 12 7 (some (4, 12))) 2 2 0 (some (3, 12))), hxc 67) _
  refine hg_iinc2 (v := 1) d_S_init_55 rfl (by decide) ?_
  refine hg_goto (tgt := 36) d_S_init_58 (by decide) ?_
  refine hg_iload2 d_S_init_36 ?_
  refine hg_bipush (v := 6) d_S_init_37 (by decide) ?_
  refine hg_icmp_ge (tgt := 61) d_S_init_39 (by decide) (fun h_2 => absurd h_2 (by decide)) (fun h_2 => ?_)
  refine hg_aload0 d_S_init_42 ?_
  refine hg_getR d_S_init_43 f_S_11 rfl rfl (by decide +kernel) (by (repeat (first | rw [hg_u3s] | (rw [hg_u3r, if_neg (by decide)]) | rw [hg_u3k (by decide)]))) ?_
  refine hg_iload2 d_S_init_46 ?_
  refine hx_new (m := 67) (k := 3) (i := 13) (by decide +kernel) (by decide) d_S_init_47 n_S_9 rfl hI3_13 (by intro j; (repeat rw [hg_u3k (by decide)]); exact hRf3_13 j) (by decide) (by decide) ?_
  refine hg_dup d_S_init_50 rfl ?_
  refine hg_callN (host := "HangmanDinner") d_S_init_51 k_H_init (by simp [hg_nl]) (hg_in 129 (by decide +kernel) rfl) rfl rfl rfl (Nat.le_of_ble_eq_true rfl) (by decide) (m_H_init (m := 68) (h := 13) (by decide +kernel) (by decide) (by decide +kernel) hI4_13 (by intro j; (repeat rw [hg_u3k (by decide)]); exact hRf4_13 j)) rfl ?_
  rintro _ _ ⟨rfl, rfl⟩
  refine hg_aast d_S_init_54 rfl (Or.inl ⟨rfl, rfl⟩) (by decide +kernel) (hx_in (j := 1) (by decide)) rfl (by decide +kernel) ?_
  show hg_WP l E _ Y_S_init _ _ 55 [some (.ref (hg_ad E 1 2)), some (.ref (hg_ad E 19 0)), some (.int (1))] [] (I, hL0, (hg_u3 (hg_u3 (hg_u3 (hg_u3 (hg_u3 (hg_u3 (hg_u3 (hg_u3 Rf 1 2 0 (some (2, 2))) 1 2 1 (some (5, 2))) 1 2 8 (some (6, 2))) 1 2 7 (some (19, 0))) 3 12 7 (some (4, 12))) 2 2 0 (some (3, 12))) 3 13 7 (some (4, 13))) 2 2 1 (some (3, 13))), hxc 69) _
  refine hg_iinc2 (v := 2) d_S_init_55 rfl (by decide) ?_
  refine hg_goto (tgt := 36) d_S_init_58 (by decide) ?_
  refine hg_iload2 d_S_init_36 ?_
  refine hg_bipush (v := 6) d_S_init_37 (by decide) ?_
  refine hg_icmp_ge (tgt := 61) d_S_init_39 (by decide) (fun h_3 => absurd h_3 (by decide)) (fun h_3 => ?_)
  refine hg_aload0 d_S_init_42 ?_
  refine hg_getR d_S_init_43 f_S_11 rfl rfl (by decide +kernel) (by (repeat (first | rw [hg_u3s] | (rw [hg_u3r, if_neg (by decide)]) | rw [hg_u3k (by decide)]))) ?_
  refine hg_iload2 d_S_init_46 ?_
  refine hx_new (m := 69) (k := 3) (i := 14) (by decide +kernel) (by decide) d_S_init_47 n_S_9 rfl hI3_14 (by intro j; (repeat rw [hg_u3k (by decide)]); exact hRf3_14 j) (by decide) (by decide) ?_
  refine hg_dup d_S_init_50 rfl ?_
  refine hg_callN (host := "HangmanDinner") d_S_init_51 k_H_init (by simp [hg_nl]) (hg_in 129 (by decide +kernel) rfl) rfl rfl rfl (Nat.le_of_ble_eq_true rfl) (by decide) (m_H_init (m := 70) (h := 14) (by decide +kernel) (by decide) (by decide +kernel) hI4_14 (by intro j; (repeat rw [hg_u3k (by decide)]); exact hRf4_14 j)) rfl ?_
  rintro _ _ ⟨rfl, rfl⟩
  refine hg_aast d_S_init_54 rfl (Or.inl ⟨rfl, rfl⟩) (by decide +kernel) (hx_in (j := 2) (by decide)) rfl (by decide +kernel) ?_
  show hg_WP l E _ Y_S_init _ _ 55 [some (.ref (hg_ad E 1 2)), some (.ref (hg_ad E 19 0)), some (.int (2))] [] (I, hL0, (hg_u3 (hg_u3 (hg_u3 (hg_u3 (hg_u3 (hg_u3 (hg_u3 (hg_u3 (hg_u3 (hg_u3 Rf 1 2 0 (some (2, 2))) 1 2 1 (some (5, 2))) 1 2 8 (some (6, 2))) 1 2 7 (some (19, 0))) 3 12 7 (some (4, 12))) 2 2 0 (some (3, 12))) 3 13 7 (some (4, 13))) 2 2 1 (some (3, 13))) 3 14 7 (some (4, 14))) 2 2 2 (some (3, 14))), hxc 71) _
  refine hg_iinc2 (v := 3) d_S_init_55 rfl (by decide) ?_
  refine hg_goto (tgt := 36) d_S_init_58 (by decide) ?_
  refine hg_iload2 d_S_init_36 ?_
  refine hg_bipush (v := 6) d_S_init_37 (by decide) ?_
  refine hg_icmp_ge (tgt := 61) d_S_init_39 (by decide) (fun h_4 => absurd h_4 (by decide)) (fun h_4 => ?_)
  refine hg_aload0 d_S_init_42 ?_
  refine hg_getR d_S_init_43 f_S_11 rfl rfl (by decide +kernel) (by (repeat (first | rw [hg_u3s] | (rw [hg_u3r, if_neg (by decide)]) | rw [hg_u3k (by decide)]))) ?_
  refine hg_iload2 d_S_init_46 ?_
  refine hx_new (m := 71) (k := 3) (i := 15) (by decide +kernel) (by decide) d_S_init_47 n_S_9 rfl hI3_15 (by intro j; (repeat rw [hg_u3k (by decide)]); exact hRf3_15 j) (by decide) (by decide) ?_
  refine hg_dup d_S_init_50 rfl ?_
  refine hg_callN (host := "HangmanDinner") d_S_init_51 k_H_init (by simp [hg_nl]) (hg_in 129 (by decide +kernel) rfl) rfl rfl rfl (Nat.le_of_ble_eq_true rfl) (by decide) (m_H_init (m := 72) (h := 15) (by decide +kernel) (by decide) (by decide +kernel) hI4_15 (by intro j; (repeat rw [hg_u3k (by decide)]); exact hRf4_15 j)) rfl ?_
  rintro _ _ ⟨rfl, rfl⟩
  refine hg_aast d_S_init_54 rfl (Or.inl ⟨rfl, rfl⟩) (by decide +kernel) (hx_in (j := 3) (by decide)) rfl (by decide +kernel) ?_
  show hg_WP l E _ Y_S_init _ _ 55 [some (.ref (hg_ad E 1 2)), some (.ref (hg_ad E 19 0)), some (.int (3))] [] (I, hL0, (hg_u3 (hg_u3 (hg_u3 (hg_u3 (hg_u3 (hg_u3 (hg_u3 (hg_u3 (hg_u3 (hg_u3 (hg_u3 (hg_u3 Rf 1 2 0 (some (2, 2))) 1 2 1 (some (5, 2))) 1 2 8 (some (6, 2))) 1 2 7 (some (19, 0))) 3 12 7 (some (4, 12))) 2 2 0 (some (3, 12))) 3 13 7 (some (4, 13))) 2 2 1 (some (3, 13))) 3 14 7 (some (4, 14))) 2 2 2 (some (3, 14))) 3 15 7 (some (4, 15))) 2 2 3 (some (3, 15))), hxc 73) _
  refine hg_iinc2 (v := 4) d_S_init_55 rfl (by decide) ?_
  refine hg_goto (tgt := 36) d_S_init_58 (by decide) ?_
  refine hg_iload2 d_S_init_36 ?_
  refine hg_bipush (v := 6) d_S_init_37 (by decide) ?_
  refine hg_icmp_ge (tgt := 61) d_S_init_39 (by decide) (fun h_5 => absurd h_5 (by decide)) (fun h_5 => ?_)
  refine hg_aload0 d_S_init_42 ?_
  refine hg_getR d_S_init_43 f_S_11 rfl rfl (by decide +kernel) (by (repeat (first | rw [hg_u3s] | (rw [hg_u3r, if_neg (by decide)]) | rw [hg_u3k (by decide)]))) ?_
  refine hg_iload2 d_S_init_46 ?_
  refine hx_new (m := 73) (k := 3) (i := 16) (by decide +kernel) (by decide) d_S_init_47 n_S_9 rfl hI3_16 (by intro j; (repeat rw [hg_u3k (by decide)]); exact hRf3_16 j) (by decide) (by decide) ?_
  refine hg_dup d_S_init_50 rfl ?_
  refine hg_callN (host := "HangmanDinner") d_S_init_51 k_H_init (by simp [hg_nl]) (hg_in 129 (by decide +kernel) rfl) rfl rfl rfl (Nat.le_of_ble_eq_true rfl) (by decide) (m_H_init (m := 74) (h := 16) (by decide +kernel) (by decide) (by decide +kernel) hI4_16 (by intro j; (repeat rw [hg_u3k (by decide)]); exact hRf4_16 j)) rfl ?_
  rintro _ _ ⟨rfl, rfl⟩
  refine hg_aast d_S_init_54 rfl (Or.inl ⟨rfl, rfl⟩) (by decide +kernel) (hx_in (j := 4) (by decide)) rfl (by decide +kernel) ?_
  show hg_WP l E _ Y_S_init _ _ 55 [some (.ref (hg_ad E 1 2)), some (.ref (hg_ad E 19 0)), some (.int (4))] [] (I, hL0, (hg_u3 (hg_u3 (hg_u3 (hg_u3 (hg_u3 (hg_u3 (hg_u3 (hg_u3 (hg_u3 (hg_u3 (hg_u3 (hg_u3 (hg_u3 (hg_u3 Rf 1 2 0 (some (2, 2))) 1 2 1 (some (5, 2))) 1 2 8 (some (6, 2))) 1 2 7 (some (19, 0))) 3 12 7 (some (4, 12))) 2 2 0 (some (3, 12))) 3 13 7 (some (4, 13))) 2 2 1 (some (3, 13))) 3 14 7 (some (4, 14))) 2 2 2 (some (3, 14))) 3 15 7 (some (4, 15))) 2 2 3 (some (3, 15))) 3 16 7 (some (4, 16))) 2 2 4 (some (3, 16))), hxc 75) _
  refine hg_iinc2 (v := 5) d_S_init_55 rfl (by decide) ?_
  refine hg_goto (tgt := 36) d_S_init_58 (by decide) ?_
  refine hg_iload2 d_S_init_36 ?_
  refine hg_bipush (v := 6) d_S_init_37 (by decide) ?_
  refine hg_icmp_ge (tgt := 61) d_S_init_39 (by decide) (fun h_6 => absurd h_6 (by decide)) (fun h_6 => ?_)
  refine hg_aload0 d_S_init_42 ?_
  refine hg_getR d_S_init_43 f_S_11 rfl rfl (by decide +kernel) (by (repeat (first | rw [hg_u3s] | (rw [hg_u3r, if_neg (by decide)]) | rw [hg_u3k (by decide)]))) ?_
  refine hg_iload2 d_S_init_46 ?_
  refine hx_new (m := 75) (k := 3) (i := 17) (by decide +kernel) (by decide) d_S_init_47 n_S_9 rfl hI3_17 (by intro j; (repeat rw [hg_u3k (by decide)]); exact hRf3_17 j) (by decide) (by decide) ?_
  refine hg_dup d_S_init_50 rfl ?_
  refine hg_callN (host := "HangmanDinner") d_S_init_51 k_H_init (by simp [hg_nl]) (hg_in 129 (by decide +kernel) rfl) rfl rfl rfl (Nat.le_of_ble_eq_true rfl) (by decide) (m_H_init (m := 76) (h := 17) (by decide +kernel) (by decide) (by decide +kernel) hI4_17 (by intro j; (repeat rw [hg_u3k (by decide)]); exact hRf4_17 j)) rfl ?_
  rintro _ _ ⟨rfl, rfl⟩
  refine hg_aast d_S_init_54 rfl (Or.inl ⟨rfl, rfl⟩) (by decide +kernel) (hx_in (j := 5) (by decide)) rfl (by decide +kernel) ?_
  show hg_WP l E _ Y_S_init _ _ 55 [some (.ref (hg_ad E 1 2)), some (.ref (hg_ad E 19 0)), some (.int (5))] [] (I, hL0, (hg_u3 (hg_u3 (hg_u3 (hg_u3 (hg_u3 (hg_u3 (hg_u3 (hg_u3 (hg_u3 (hg_u3 (hg_u3 (hg_u3 (hg_u3 (hg_u3 (hg_u3 (hg_u3 Rf 1 2 0 (some (2, 2))) 1 2 1 (some (5, 2))) 1 2 8 (some (6, 2))) 1 2 7 (some (19, 0))) 3 12 7 (some (4, 12))) 2 2 0 (some (3, 12))) 3 13 7 (some (4, 13))) 2 2 1 (some (3, 13))) 3 14 7 (some (4, 14))) 2 2 2 (some (3, 14))) 3 15 7 (some (4, 15))) 2 2 3 (some (3, 15))) 3 16 7 (some (4, 16))) 2 2 4 (some (3, 16))) 3 17 7 (some (4, 17))) 2 2 5 (some (3, 17))), hxc 77) _
  refine hg_iinc2 (v := 6) d_S_init_55 rfl (by decide) ?_
  refine hg_goto (tgt := 36) d_S_init_58 (by decide) ?_
  refine hg_iload2 d_S_init_36 ?_
  refine hg_bipush (v := 6) d_S_init_37 (by decide) ?_
  refine hg_icmp_ge (tgt := 61) d_S_init_39 (by decide) (fun h_7 => ?_) (fun h_7 => absurd (by decide) h_7)
  refine hg_return d_S_init_61 rfl ?_
  rfl
abbrev hZ0 : Nat → Nat → Nat → Int32 := fun _ _ _ => 0
abbrev hN0 : Nat → Nat → Nat → Option (Nat × Nat) := fun _ _ _ => none
theorem m_D_init  : hg_MC l E (d + 3) Y_D_init 100 8000 [.ref (hg_ad E 0 0)] (hZ0, hL0, hN0, hxc 1) (hg_v (fun M' => M' = ((hg_u3 (hg_u3 (hg_u3 (hg_u3 (hg_u3 (hg_u3 (hg_u3 hZ0 19 0 1 60) 16 0 0 (-1)) 16 1 0 (-1)) 16 2 0 (-1)) 16 3 0 (-1)) 16 4 0 (-1)) 16 5 0 (-1)), hL0, (hg_u3 (hg_u3 (hg_u3 (hg_u3 (hg_u3 (hg_u3 (hg_u3 (hg_u3 (hg_u3 (hg_u3 (hg_u3 (hg_u3 (hg_u3 (hg_u3 (hg_u3 (hg_u3 (hg_u3 (hg_u3 (hg_u3 (hg_u3 (hg_u3 (hg_u3 (hg_u3 (hg_u3 (hg_u3 (hg_u3 (hg_u3 (hg_u3 (hg_u3 (hg_u3 (hg_u3 (hg_u3 (hg_u3 (hg_u3 (hg_u3 (hg_u3 (hg_u3 (hg_u3 (hg_u3 (hg_u3 (hg_u3 (hg_u3 (hg_u3 (hg_u3 (hg_u3 (hg_u3 (hg_u3 (hg_u3 (hg_u3 (hg_u3 (hg_u3 (hg_u3 (hg_u3 (hg_u3 (hg_u3 (hg_u3 (hg_u3 (hg_u3 (hg_u3 (hg_u3 (hg_u3 (hg_u3 (hg_u3 (hg_u3 (hg_u3 (hg_u3 (hg_u3 (hg_u3 (hg_u3 (hg_u3 (hg_u3 (hg_u3 (hg_u3 (hg_u3 (hg_u3 (hg_u3 (hg_u3 (hg_u3 (hg_u3 (hg_u3 (hg_u3 (hg_u3 (hg_u3 (hg_u3 (hg_u3 (hg_u3 (hg_u3 (hg_u3 (hg_u3 hN0 7 0 0 (some (8, 0))) 7 0 1 (some (9, 0))) 0 0 3 (some (7, 0))) 7 1 0 (some (8, 1))) 7 1 1 (some (9, 1))) 0 0 4 (some (7, 1))) 7 2 0 (some (8, 2))) 7 2 1 (some (9, 2))) 0 0 5 (some (7, 2))) 7 3 0 (some (8, 3))) 7 3 1 (some (9, 3))) 0 0 6 (some (7, 3))) 7 4 0 (some (8, 4))) 7 4 1 (some (9, 4))) 0 0 7 (some (7, 4))) 7 5 0 (some (8, 5))) 7 5 1 (some (9, 5))) 0 0 8 (some (7, 5))) 10 0 0 (some (11, 0))) 10 0 3 (some (12, 0))) 0 0 10 (some (10, 0))) 13 0 0 (some (14, 0))) 0 0 12 (some (13, 0))) 0 0 13 (some (15, 0))) 0 0 14 (some (18, 0))) 19 0 0 (some (20, 0))) 1 0 0 (some (2, 0))) 1 0 1 (some (5, 0))) 1 0 8 (some (6, 0))) 1 0 7 (some (19, 0))) 3 0 7 (some (4, 0))) 2 0 0 (some (3, 0))) 3 1 7 (some (4, 1))) 2 0 1 (some (3, 1))) 3 2 7 (some (4, 2))) 2 0 2 (some (3, 2))) 3 3 7 (some (4, 3))) 2 0 3 (some (3, 3))) 3 4 7 (some (4, 4))) 2 0 4 (some (3, 4))) 3 5 7 (some (4, 5))) 2 0 5 (some (3, 5))) 0 0 0 (some (1, 0))) 1 1 0 (some (2, 1))) 1 1 1 (some (5, 1))) 1 1 8 (some (6, 1))) 1 1 7 (some (19, 0))) 3 6 7 (some (4, 6))) 2 1 0 (some (3, 6))) 3 7 7 (some (4, 7))) 2 1 1 (some (3, 7))) 3 8 7 (some (4, 8))) 2 1 2 (some (3, 8))) 3 9 7 (some (4, 9))) 2 1 3 (some (3, 9))) 3 10 7 (some (4, 10))) 2 1 4 (some (3, 10))) 3 11 7 (some (4, 11))) 2 1 5 (some (3, 11))) 0 0 1 (some (1, 1))) 1 2 0 (some (2, 2))) 1 2 1 (some (5, 2))) 1 2 8 (some (6, 2))) 1 2 7 (some (19, 0))) 3 12 7 (some (4, 12))) 2 2 0 (some (3, 12))) 3 13 7 (some (4, 13))) 2 2 1 (some (3, 13))) 3 14 7 (some (4, 14))) 2 2 2 (some (3, 14))) 3 15 7 (some (4, 15))) 2 2 3 (some (3, 15))) 3 16 7 (some (4, 16))) 2 2 4 (some (3, 16))) 3 17 7 (some (4, 17))) 2 2 5 (some (3, 17))) 0 0 2 (some (1, 2))) 16 0 2 (some (17, 0))) 15 0 0 (some (16, 0))) 16 1 2 (some (17, 1))) 15 0 1 (some (16, 1))) 16 2 2 (some (17, 2))) 15 0 2 (some (16, 2))) 16 3 2 (some (17, 3))) 15 0 3 (some (16, 3))) 16 4 2 (some (17, 4))) 15 0 4 (some (16, 4))) 16 5 2 (some (17, 5))) 15 0 5 (some (16, 5))), hxc 89))) := by
  refine hg_mc k_D_init (Nat.le_of_ble_eq_true rfl) ?_
  show hg_WP l E _ Y_D_init 100 8000 0 [some (.ref (hg_ad E 0 0)), none, none] [] (hZ0, hL0, hN0, hxc 1) _
  refine hg_aload0 d_D_init_0 ?_
  refine hg_objInit d_D_init_1 l_D_3 ?_
  refine hg_aload0 d_D_init_4 ?_
  refine hx_new (m := 1) (k := 7) (i := 0) (by decide +kernel) (by decide) d_D_init_5 n_D_9 rfl (fun _ => rfl) (fun _ => rfl) (by decide) (by decide) ?_
  refine hg_dup d_D_init_8 rfl ?_
  refine hg_iconst (v := 5) d_D_init_9 (by decide) ?_
  refine hg_callI d_D_init_10 l_D_13 rfl (Nat.le_of_ble_eq_true rfl) (by decide) (m_W_init (m := 2) (r := 0) (n := 5) (by decide +kernel) (by decide +kernel) (by decide) (by decide) (by decide) rfl rfl (by decide +kernel) (by decide +kernel) (fun _ => rfl) (fun _ => rfl) (fun _ => rfl) (fun _ => rfl)) rfl ?_
  rintro _ _ ⟨rfl, rfl⟩
  refine hg_putR d_D_init_13 f_D_16 rfl rfl (Or.inr ⟨rfl, rfl, rfl⟩) (fun _ => rfl) (fun _ => rfl) (by decide +kernel) ?_
  refine hg_aload0 d_D_init_16 ?_
  refine hx_new (m := 4) (k := 7) (i := 1) (by decide +kernel) (by decide) d_D_init_17 n_D_9 rfl (fun _ => rfl) (fun _ => rfl) (by decide) (by decide) ?_
  refine hg_dup d_D_init_20 rfl ?_
  refine hg_iconst (v := 5) d_D_init_21 (by decide) ?_
  refine hg_callI d_D_init_22 l_D_13 rfl (Nat.le_of_ble_eq_true rfl) (by decide) (m_W_init (m := 5) (r := 1) (n := 5) (by decide +kernel) (by decide +kernel) (by decide) (by decide) (by decide) rfl rfl (by decide +kernel) (by decide +kernel) (fun _ => rfl) (fun _ => rfl) (fun _ => rfl) (fun _ => rfl)) rfl ?_
  rintro _ _ ⟨rfl, rfl⟩
  refine hg_putR d_D_init_25 f_D_20 rfl rfl (Or.inr ⟨rfl, rfl, rfl⟩) (fun _ => rfl) (fun _ => rfl) (by decide +kernel) ?_
  refine hg_aload0 d_D_init_28 ?_
  refine hx_new (m := 7) (k := 7) (i := 2) (by decide +kernel) (by decide) d_D_init_29 n_D_9 rfl (fun _ => rfl) (fun _ => rfl) (by decide) (by decide) ?_
  refine hg_dup d_D_init_32 rfl ?_
  refine hg_bipush (v := 10) d_D_init_33 (by decide) ?_
  refine hg_callI d_D_init_35 l_D_13 rfl (Nat.le_of_ble_eq_true rfl) (by decide) (m_W_init (m := 8) (r := 2) (n := 10) (by decide +kernel) (by decide +kernel) (by decide) (by decide) (by decide) rfl rfl (by decide +kernel) (by decide +kernel) (fun _ => rfl) (fun _ => rfl) (fun _ => rfl) (fun _ => rfl)) rfl ?_
  rintro _ _ ⟨rfl, rfl⟩
  refine hg_putR d_D_init_38 f_D_23 rfl rfl (Or.inr ⟨rfl, rfl, rfl⟩) (fun _ => rfl) (fun _ => rfl) (by decide +kernel) ?_
  refine hg_aload0 d_D_init_41 ?_
  refine hx_new (m := 10) (k := 7) (i := 3) (by decide +kernel) (by decide) d_D_init_42 n_D_9 rfl (fun _ => rfl) (fun _ => rfl) (by decide) (by decide) ?_
  refine hg_dup d_D_init_45 rfl ?_
  refine hg_bipush (v := 10) d_D_init_46 (by decide) ?_
  refine hg_callI d_D_init_48 l_D_13 rfl (Nat.le_of_ble_eq_true rfl) (by decide) (m_W_init (m := 11) (r := 3) (n := 10) (by decide +kernel) (by decide +kernel) (by decide) (by decide) (by decide) rfl rfl (by decide +kernel) (by decide +kernel) (fun _ => rfl) (fun _ => rfl) (fun _ => rfl) (fun _ => rfl)) rfl ?_
  rintro _ _ ⟨rfl, rfl⟩
  refine hg_putR d_D_init_51 f_D_26 rfl rfl (Or.inr ⟨rfl, rfl, rfl⟩) (fun _ => rfl) (fun _ => rfl) (by decide +kernel) ?_
  refine hg_aload0 d_D_init_54 ?_
  refine hx_new (m := 13) (k := 7) (i := 4) (by decide +kernel) (by decide) d_D_init_55 n_D_9 rfl (fun _ => rfl) (fun _ => rfl) (by decide) (by decide) ?_
  refine hg_dup d_D_init_58 rfl ?_
  refine hg_bipush (v := 8) d_D_init_59 (by decide) ?_
  refine hg_callI d_D_init_61 l_D_13 rfl (Nat.le_of_ble_eq_true rfl) (by decide) (m_W_init (m := 14) (r := 4) (n := 8) (by decide +kernel) (by decide +kernel) (by decide) (by decide) (by decide) rfl rfl (by decide +kernel) (by decide +kernel) (fun _ => rfl) (fun _ => rfl) (fun _ => rfl) (fun _ => rfl)) rfl ?_
  rintro _ _ ⟨rfl, rfl⟩
  refine hg_putR d_D_init_64 f_D_29 rfl rfl (Or.inr ⟨rfl, rfl, rfl⟩) (fun _ => rfl) (fun _ => rfl) (by decide +kernel) ?_
  refine hg_aload0 d_D_init_67 ?_
  refine hx_new (m := 16) (k := 7) (i := 5) (by decide +kernel) (by decide) d_D_init_68 n_D_9 rfl (fun _ => rfl) (fun _ => rfl) (by decide) (by decide) ?_
  refine hg_dup d_D_init_71 rfl ?_
  refine hg_bipush (v := 8) d_D_init_72 (by decide) ?_
  refine hg_callI d_D_init_74 l_D_13 rfl (Nat.le_of_ble_eq_true rfl) (by decide) (m_W_init (m := 17) (r := 5) (n := 8) (by decide +kernel) (by decide +kernel) (by decide) (by decide) (by decide) rfl rfl (by decide +kernel) (by decide +kernel) (fun _ => rfl) (fun _ => rfl) (fun _ => rfl) (fun _ => rfl)) rfl ?_
  rintro _ _ ⟨rfl, rfl⟩
  refine hg_putR d_D_init_77 f_D_32 rfl rfl (Or.inr ⟨rfl, rfl, rfl⟩) (fun _ => rfl) (fun _ => rfl) (by decide +kernel) ?_
  refine hg_aload0 d_D_init_80 ?_
  refine hx_new (m := 19) (k := 10) (i := 0) (by decide +kernel) (by decide) d_D_init_81 n_D_35 rfl (fun _ => rfl) (fun _ => rfl) (by decide) (by decide) ?_
  refine hg_dup d_D_init_84 rfl ?_
  refine hg_callN (host := "HangmanDinner") d_D_init_85 k_R_init (by simp [hg_nl]) (hg_in 48 (by decide +kernel) rfl) rfl rfl rfl (Nat.le_of_ble_eq_true rfl) (by decide) (m_R_init (fun _ => rfl) (fun _ => rfl) (fun _ => rfl) (fun _ => rfl)) rfl ?_
  rintro _ _ ⟨rfl, rfl⟩
  refine hg_putR d_D_init_88 f_D_38 rfl rfl (Or.inr ⟨rfl, rfl, rfl⟩) (fun _ => rfl) (fun _ => rfl) (by decide +kernel) ?_
  refine hg_aload0 d_D_init_91 ?_
  refine hx_new (m := 22) (k := 13) (i := 0) (by decide +kernel) (by decide) d_D_init_92 n_D_42 rfl (fun _ => rfl) (fun _ => rfl) (by decide) (by decide) ?_
  refine hg_dup d_D_init_95 rfl ?_
  refine hg_callN (host := "HangmanDinner") d_D_init_96 k_T_init (by simp [hg_nl]) (hg_in 78 (by decide +kernel) rfl) rfl rfl rfl (Nat.le_of_ble_eq_true rfl) (by decide) (m_T_init (fun _ => rfl) (fun _ => rfl)) rfl ?_
  rintro _ _ ⟨rfl, rfl⟩
  refine hg_putR d_D_init_99 f_D_45 rfl rfl (Or.inr ⟨rfl, rfl, rfl⟩) (fun _ => rfl) (fun _ => rfl) (by decide +kernel) ?_
  refine hg_aload0 d_D_init_102 ?_
  refine hg_bipush (v := 6) d_D_init_103 (by decide) ?_
  refine hx_newq (m := 24) (k := 15) (i := 0) (N := 6) (by decide +kernel) d_D_init_105 (hg_in 99 (by decide +kernel) rfl) rfl (Or.inr ⟨rfl, rfl⟩) (by decide) (by decide) (by decide) (by decide) (fun _ => rfl) (fun _ => rfl) (by decide) (by decide) ?_
  refine hg_putR d_D_init_108 f_D_51 rfl rfl (Or.inr ⟨rfl, rfl, rfl⟩) (fun _ => rfl) (fun _ => rfl) (by decide +kernel) ?_
  refine hg_aload0 d_D_init_111 ?_
  refine hg_sipush (v := 384) d_D_init_112 (by decide) ?_
  refine hx_newa (m := 25) (k := 18) (i := 0) (N := 384) (by decide +kernel) d_D_init_115 rfl rfl (by decide) hg_ac_int (by decide) (by decide) (by decide) (by decide) (fun _ => rfl) (fun _ => rfl) (by decide) (by decide) ?_
  refine hg_putR d_D_init_117 f_D_55 rfl rfl (Or.inr ⟨rfl, rfl, rfl⟩) (fun _ => rfl) (fun _ => rfl) (by decide +kernel) ?_
  refine hx_new (m := 26) (k := 19) (i := 0) (by decide +kernel) (by decide) d_D_init_120 n_D_59 rfl (fun _ => rfl) (fun _ => rfl) (by decide) (by decide) ?_
  refine hg_dup d_D_init_123 rfl ?_
  refine hg_iconst (v := 0) d_D_init_124 (by decide) ?_
  refine hx_newa (m := 27) (k := 25) (i := 0) (N := 0) (by decide +kernel) d_D_init_125 rfl rfl (by decide) hg_ac_int (by decide) (by decide) (by decide) (by decide) (fun _ => rfl) (fun _ => rfl) (by decide) (by decide) ?_
  refine hg_iconst (v := 0) d_D_init_127 (by decide) ?_
  refine hg_bipush (v := 60) d_D_init_128 (by decide) ?_
  refine hg_callI d_D_init_130 l_D_61 rfl (Nat.le_of_ble_eq_true rfl) (by decide) (m_O_init0 (fun _ => rfl) (fun _ => rfl)) rfl ?_
  rintro _ _ ⟨rfl, rfl⟩
  refine hg_astore1 d_D_init_133 rfl ?_
  refine hg_aload0 d_D_init_134 ?_
  refine hx_new (m := 29) (k := 1) (i := 0) (by decide +kernel) (by decide) d_D_init_135 n_D_64 rfl (fun _ => rfl) (fun _ => rfl) (by decide) (by decide) ?_
  refine hg_dup d_D_init_138 rfl ?_
  refine hg_aload1 d_D_init_139 ?_
  refine hg_callI d_D_init_140 l_D_66 rfl (Nat.le_of_ble_eq_true rfl) (by decide) (m_S_init0 (fun _ => rfl) (fun _ => rfl) (fun _ => rfl) (fun _ => rfl) (fun _ => rfl) (fun _ => rfl) (fun _ => rfl) (fun _ => rfl) (fun _ => rfl) (fun _ => rfl) (fun _ => rfl) (fun _ => rfl) (fun _ => rfl) (fun _ => rfl) (fun _ => rfl) (fun _ => rfl) (fun _ => rfl) (fun _ => rfl) (fun _ => rfl) (fun _ => rfl) (fun _ => rfl) (fun _ => rfl) (fun _ => rfl) (fun _ => rfl) (fun _ => rfl) (fun _ => rfl) (fun _ => rfl) (fun _ => rfl) (fun _ => rfl) (fun _ => rfl)) rfl ?_
  rintro _ _ ⟨rfl, rfl⟩
  refine hg_putR d_D_init_143 f_D_69 rfl rfl (Or.inr ⟨rfl, rfl, rfl⟩) (fun _ => rfl) (fun _ => rfl) (by decide +kernel) ?_
  refine hg_aload0 d_D_init_146 ?_
  refine hx_new (m := 45) (k := 1) (i := 1) (by decide +kernel) (by decide) d_D_init_147 n_D_64 rfl (fun _ => rfl) (fun _ => rfl) (by decide) (by decide) ?_
  refine hg_dup d_D_init_150 rfl ?_
  refine hg_aload1 d_D_init_151 ?_
  refine hg_callI d_D_init_152 l_D_66 rfl (Nat.le_of_ble_eq_true rfl) (by decide) (m_S_init1 (fun _ => rfl) (fun _ => rfl) (fun _ => rfl) (fun _ => rfl) (fun _ => rfl) (fun _ => rfl) (fun _ => rfl) (fun _ => rfl) (fun _ => rfl) (fun _ => rfl) (fun _ => rfl) (fun _ => rfl) (fun _ => rfl) (fun _ => rfl) (fun _ => rfl) (fun _ => rfl) (fun _ => rfl) (fun _ => rfl) (fun _ => rfl) (fun _ => rfl) (fun _ => rfl) (fun _ => rfl) (fun _ => rfl) (fun _ => rfl) (fun _ => rfl) (fun _ => rfl) (fun _ => rfl) (fun _ => rfl) (fun _ => rfl) (fun _ => rfl)) rfl ?_
  rintro _ _ ⟨rfl, rfl⟩
  refine hg_putR d_D_init_155 f_D_73 rfl rfl (Or.inr ⟨rfl, rfl, rfl⟩) (fun _ => rfl) (fun _ => rfl) (by decide +kernel) ?_
  refine hg_aload0 d_D_init_158 ?_
  refine hx_new (m := 61) (k := 1) (i := 2) (by decide +kernel) (by decide) d_D_init_159 n_D_64 rfl (fun _ => rfl) (fun _ => rfl) (by decide) (by decide) ?_
  refine hg_dup d_D_init_162 rfl ?_
  refine hg_aload1 d_D_init_163 ?_
  refine hg_callI d_D_init_164 l_D_66 rfl (Nat.le_of_ble_eq_true rfl) (by decide) (m_S_init2 (fun _ => rfl) (fun _ => rfl) (fun _ => rfl) (fun _ => rfl) (fun _ => rfl) (fun _ => rfl) (fun _ => rfl) (fun _ => rfl) (fun _ => rfl) (fun _ => rfl) (fun _ => rfl) (fun _ => rfl) (fun _ => rfl) (fun _ => rfl) (fun _ => rfl) (fun _ => rfl) (fun _ => rfl) (fun _ => rfl) (fun _ => rfl) (fun _ => rfl) (fun _ => rfl) (fun _ => rfl) (fun _ => rfl) (fun _ => rfl) (fun _ => rfl) (fun _ => rfl) (fun _ => rfl) (fun _ => rfl) (fun _ => rfl) (fun _ => rfl)) rfl ?_
  rintro _ _ ⟨rfl, rfl⟩
  refine hg_putR d_D_init_167 f_D_76 rfl rfl (Or.inr ⟨rfl, rfl, rfl⟩) (fun _ => rfl) (fun _ => rfl) (by decide +kernel) ?_
  refine hg_iconst (v := 0) d_D_init_170 (by decide) ?_
  refine hg_istore2 d_D_init_171 rfl ?_
  refine hg_iload2 d_D_init_172 ?_
  refine hg_bipush (v := 6) d_D_init_173 (by decide) ?_
  refine hg_icmp_ge (tgt := 197) d_D_init_175 (by decide) (fun h_1 => absurd h_1 (by decide)) (fun h_1 => ?_)
  refine hg_aload0 d_D_init_178 ?_
  refine hg_getR d_D_init_179 f_D_51 rfl rfl (by decide +kernel) rfl ?_
  refine hg_iload2 d_D_init_182 ?_
  refine hx_new (m := 77) (k := 16) (i := 0) (by decide +kernel) (by decide) d_D_init_183 n_D_49 rfl (fun _ => rfl) (fun _ => rfl) (by decide) (by decide) ?_
  refine hg_dup d_D_init_186 rfl ?_
  refine hg_callN (host := "HangmanDinner") d_D_init_187 k_P_init (by simp [hg_nl]) (hg_in 213 (by decide +kernel) rfl) rfl rfl rfl (Nat.le_of_ble_eq_true rfl) (by decide) (m_P_init (m := 78) (t := 0) (by decide +kernel) (by decide) (by decide +kernel) (by decide +kernel) (fun _ => rfl) (fun _ => rfl)) rfl ?_
  rintro _ _ ⟨rfl, rfl⟩
  refine hg_aast d_D_init_190 rfl (Or.inr ⟨rfl, rfl⟩) (by decide +kernel) (hx_in (j := 0) (by decide)) rfl (by decide +kernel) ?_
  show hg_WP l E _ Y_D_init _ _ 191 [some (.ref (hg_ad E 0 0)), some (.ref (hg_ad E 19 0)), some (.int 0)] [] ((hg_u3 (hg_u3 hZ0 19 0 1 60) 16 0 0 (-1)), hL0, (hg_u3 (hg_u3 (hg_u3 (hg_u3 (hg_u3 (hg_u3 (hg_u3 (hg_u3 (hg_u3 (hg_u3 (hg_u3 (hg_u3 (hg_u3 (hg_u3 (hg_u3 (hg_u3 (hg_u3 (hg_u3 (hg_u3 (hg_u3 (hg_u3 (hg_u3 (hg_u3 (hg_u3 (hg_u3 (hg_u3 (hg_u3 (hg_u3 (hg_u3 (hg_u3 (hg_u3 (hg_u3 (hg_u3 (hg_u3 (hg_u3 (hg_u3 (hg_u3 (hg_u3 (hg_u3 (hg_u3 (hg_u3 (hg_u3 (hg_u3 (hg_u3 (hg_u3 (hg_u3 (hg_u3 (hg_u3 (hg_u3 (hg_u3 (hg_u3 (hg_u3 (hg_u3 (hg_u3 (hg_u3 (hg_u3 (hg_u3 (hg_u3 (hg_u3 (hg_u3 (hg_u3 (hg_u3 (hg_u3 (hg_u3 (hg_u3 (hg_u3 (hg_u3 (hg_u3 (hg_u3 (hg_u3 (hg_u3 (hg_u3 (hg_u3 (hg_u3 (hg_u3 (hg_u3 (hg_u3 (hg_u3 (hg_u3 hN0 7 0 0 (some (8, 0))) 7 0 1 (some (9, 0))) 0 0 3 (some (7, 0))) 7 1 0 (some (8, 1))) 7 1 1 (some (9, 1))) 0 0 4 (some (7, 1))) 7 2 0 (some (8, 2))) 7 2 1 (some (9, 2))) 0 0 5 (some (7, 2))) 7 3 0 (some (8, 3))) 7 3 1 (some (9, 3))) 0 0 6 (some (7, 3))) 7 4 0 (some (8, 4))) 7 4 1 (some (9, 4))) 0 0 7 (some (7, 4))) 7 5 0 (some (8, 5))) 7 5 1 (some (9, 5))) 0 0 8 (some (7, 5))) 10 0 0 (some (11, 0))) 10 0 3 (some (12, 0))) 0 0 10 (some (10, 0))) 13 0 0 (some (14, 0))) 0 0 12 (some (13, 0))) 0 0 13 (some (15, 0))) 0 0 14 (some (18, 0))) 19 0 0 (some (20, 0))) 1 0 0 (some (2, 0))) 1 0 1 (some (5, 0))) 1 0 8 (some (6, 0))) 1 0 7 (some (19, 0))) 3 0 7 (some (4, 0))) 2 0 0 (some (3, 0))) 3 1 7 (some (4, 1))) 2 0 1 (some (3, 1))) 3 2 7 (some (4, 2))) 2 0 2 (some (3, 2))) 3 3 7 (some (4, 3))) 2 0 3 (some (3, 3))) 3 4 7 (some (4, 4))) 2 0 4 (some (3, 4))) 3 5 7 (some (4, 5))) 2 0 5 (some (3, 5))) 0 0 0 (some (1, 0))) 1 1 0 (some (2, 1))) 1 1 1 (some (5, 1))) 1 1 8 (some (6, 1))) 1 1 7 (some (19, 0))) 3 6 7 (some (4, 6))) 2 1 0 (some (3, 6))) 3 7 7 (some (4, 7))) 2 1 1 (some (3, 7))) 3 8 7 (some (4, 8))) 2 1 2 (some (3, 8))) 3 9 7 (some (4, 9))) 2 1 3 (some (3, 9))) 3 10 7 (some (4, 10))) 2 1 4 (some (3, 10))) 3 11 7 (some (4, 11))) 2 1 5 (some (3, 11))) 0 0 1 (some (1, 1))) 1 2 0 (some (2, 2))) 1 2 1 (some (5, 2))) 1 2 8 (some (6, 2))) 1 2 7 (some (19, 0))) 3 12 7 (some (4, 12))) 2 2 0 (some (3, 12))) 3 13 7 (some (4, 13))) 2 2 1 (some (3, 13))) 3 14 7 (some (4, 14))) 2 2 2 (some (3, 14))) 3 15 7 (some (4, 15))) 2 2 3 (some (3, 15))) 3 16 7 (some (4, 16))) 2 2 4 (some (3, 16))) 3 17 7 (some (4, 17))) 2 2 5 (some (3, 17))) 0 0 2 (some (1, 2))) 16 0 2 (some (17, 0))) 15 0 0 (some (16, 0))), hxc 79) _
  refine hg_iinc2 (v := 1) d_D_init_191 rfl (by decide) ?_
  refine hg_goto (tgt := 172) d_D_init_194 (by decide) ?_
  refine hg_iload2 d_D_init_172 ?_
  refine hg_bipush (v := 6) d_D_init_173 (by decide) ?_
  refine hg_icmp_ge (tgt := 197) d_D_init_175 (by decide) (fun h_2 => absurd h_2 (by decide)) (fun h_2 => ?_)
  refine hg_aload0 d_D_init_178 ?_
  refine hg_getR d_D_init_179 f_D_51 rfl rfl (by decide +kernel) rfl ?_
  refine hg_iload2 d_D_init_182 ?_
  refine hx_new (m := 79) (k := 16) (i := 1) (by decide +kernel) (by decide) d_D_init_183 n_D_49 rfl (fun _ => rfl) (fun _ => rfl) (by decide) (by decide) ?_
  refine hg_dup d_D_init_186 rfl ?_
  refine hg_callN (host := "HangmanDinner") d_D_init_187 k_P_init (by simp [hg_nl]) (hg_in 213 (by decide +kernel) rfl) rfl rfl rfl (Nat.le_of_ble_eq_true rfl) (by decide) (m_P_init (m := 80) (t := 1) (by decide +kernel) (by decide) (by decide +kernel) (by decide +kernel) (fun _ => rfl) (fun _ => rfl)) rfl ?_
  rintro _ _ ⟨rfl, rfl⟩
  refine hg_aast d_D_init_190 rfl (Or.inr ⟨rfl, rfl⟩) (by decide +kernel) (hx_in (j := 1) (by decide)) rfl (by decide +kernel) ?_
  show hg_WP l E _ Y_D_init _ _ 191 [some (.ref (hg_ad E 0 0)), some (.ref (hg_ad E 19 0)), some (.int (1))] [] ((hg_u3 (hg_u3 (hg_u3 hZ0 19 0 1 60) 16 0 0 (-1)) 16 1 0 (-1)), hL0, (hg_u3 (hg_u3 (hg_u3 (hg_u3 (hg_u3 (hg_u3 (hg_u3 (hg_u3 (hg_u3 (hg_u3 (hg_u3 (hg_u3 (hg_u3 (hg_u3 (hg_u3 (hg_u3 (hg_u3 (hg_u3 (hg_u3 (hg_u3 (hg_u3 (hg_u3 (hg_u3 (hg_u3 (hg_u3 (hg_u3 (hg_u3 (hg_u3 (hg_u3 (hg_u3 (hg_u3 (hg_u3 (hg_u3 (hg_u3 (hg_u3 (hg_u3 (hg_u3 (hg_u3 (hg_u3 (hg_u3 (hg_u3 (hg_u3 (hg_u3 (hg_u3 (hg_u3 (hg_u3 (hg_u3 (hg_u3 (hg_u3 (hg_u3 (hg_u3 (hg_u3 (hg_u3 (hg_u3 (hg_u3 (hg_u3 (hg_u3 (hg_u3 (hg_u3 (hg_u3 (hg_u3 (hg_u3 (hg_u3 (hg_u3 (hg_u3 (hg_u3 (hg_u3 (hg_u3 (hg_u3 (hg_u3 (hg_u3 (hg_u3 (hg_u3 (hg_u3 (hg_u3 (hg_u3 (hg_u3 (hg_u3 (hg_u3 (hg_u3 (hg_u3 hN0 7 0 0 (some (8, 0))) 7 0 1 (some (9, 0))) 0 0 3 (some (7, 0))) 7 1 0 (some (8, 1))) 7 1 1 (some (9, 1))) 0 0 4 (some (7, 1))) 7 2 0 (some (8, 2))) 7 2 1 (some (9, 2))) 0 0 5 (some (7, 2))) 7 3 0 (some (8, 3))) 7 3 1 (some (9, 3))) 0 0 6 (some (7, 3))) 7 4 0 (some (8, 4))) 7 4 1 (some (9, 4))) 0 0 7 (some (7, 4))) 7 5 0 (some (8, 5))) 7 5 1 (some (9, 5))) 0 0 8 (some (7, 5))) 10 0 0 (some (11, 0))) 10 0 3 (some (12, 0))) 0 0 10 (some (10, 0))) 13 0 0 (some (14, 0))) 0 0 12 (some (13, 0))) 0 0 13 (some (15, 0))) 0 0 14 (some (18, 0))) 19 0 0 (some (20, 0))) 1 0 0 (some (2, 0))) 1 0 1 (some (5, 0))) 1 0 8 (some (6, 0))) 1 0 7 (some (19, 0))) 3 0 7 (some (4, 0))) 2 0 0 (some (3, 0))) 3 1 7 (some (4, 1))) 2 0 1 (some (3, 1))) 3 2 7 (some (4, 2))) 2 0 2 (some (3, 2))) 3 3 7 (some (4, 3))) 2 0 3 (some (3, 3))) 3 4 7 (some (4, 4))) 2 0 4 (some (3, 4))) 3 5 7 (some (4, 5))) 2 0 5 (some (3, 5))) 0 0 0 (some (1, 0))) 1 1 0 (some (2, 1))) 1 1 1 (some (5, 1))) 1 1 8 (some (6, 1))) 1 1 7 (some (19, 0))) 3 6 7 (some (4, 6))) 2 1 0 (some (3, 6))) 3 7 7 (some (4, 7))) 2 1 1 (some (3, 7))) 3 8 7 (some (4, 8))) 2 1 2 (some (3, 8))) 3 9 7 (some (4, 9))) 2 1 3 (some (3, 9))) 3 10 7 (some (4, 10))) 2 1 4 (some (3, 10))) 3 11 7 (some (4, 11))) 2 1 5 (some (3, 11))) 0 0 1 (some (1, 1))) 1 2 0 (some (2, 2))) 1 2 1 (some (5, 2))) 1 2 8 (some (6, 2))) 1 2 7 (some (19, 0))) 3 12 7 (some (4, 12))) 2 2 0 (some (3, 12))) 3 13 7 (some (4, 13))) 2 2 1 (some (3, 13))) 3 14 7 (some (4, 14))) 2 2 2 (some (3, 14))) 3 15 7 (some (4, 15))) 2 2 3 (some (3, 15))) 3 16 7 (some (4, 16))) 2 2 4 (some (3, 16))) 3 17 7 (some (4, 17))) 2 2 5 (some (3, 17))) 0 0 2 (some (1, 2))) 16 0 2 (some (17, 0))) 15 0 0 (some (16, 0))) 16 1 2 (some (17, 1))) 15 0 1 (some (16, 1))), hxc 81) _
  refine hg_iinc2 (v := 2) d_D_init_191 rfl (by decide) ?_
  refine hg_goto (tgt := 172) d_D_init_194 (by decide) ?_
  refine hg_iload2 d_D_init_172 ?_
  refine hg_bipush (v := 6) d_D_init_173 (by decide) ?_
  refine hg_icmp_ge (tgt := 197) d_D_init_175 (by decide) (fun h_3 => absurd h_3 (by decide)) (fun h_3 => ?_)
  refine hg_aload0 d_D_init_178 ?_
  refine hg_getR d_D_init_179 f_D_51 rfl rfl (by decide +kernel) rfl ?_
  refine hg_iload2 d_D_init_182 ?_
  refine hx_new (m := 81) (k := 16) (i := 2) (by decide +kernel) (by decide) d_D_init_183 n_D_49 rfl (fun _ => rfl) (fun _ => rfl) (by decide) (by decide) ?_
  refine hg_dup d_D_init_186 rfl ?_
  refine hg_callN (host := "HangmanDinner") d_D_init_187 k_P_init (by simp [hg_nl]) (hg_in 213 (by decide +kernel) rfl) rfl rfl rfl (Nat.le_of_ble_eq_true rfl) (by decide) (m_P_init (m := 82) (t := 2) (by decide +kernel) (by decide) (by decide +kernel) (by decide +kernel) (fun _ => rfl) (fun _ => rfl)) rfl ?_
  rintro _ _ ⟨rfl, rfl⟩
  refine hg_aast d_D_init_190 rfl (Or.inr ⟨rfl, rfl⟩) (by decide +kernel) (hx_in (j := 2) (by decide)) rfl (by decide +kernel) ?_
  show hg_WP l E _ Y_D_init _ _ 191 [some (.ref (hg_ad E 0 0)), some (.ref (hg_ad E 19 0)), some (.int (2))] [] ((hg_u3 (hg_u3 (hg_u3 (hg_u3 hZ0 19 0 1 60) 16 0 0 (-1)) 16 1 0 (-1)) 16 2 0 (-1)), hL0, (hg_u3 (hg_u3 (hg_u3 (hg_u3 (hg_u3 (hg_u3 (hg_u3 (hg_u3 (hg_u3 (hg_u3 (hg_u3 (hg_u3 (hg_u3 (hg_u3 (hg_u3 (hg_u3 (hg_u3 (hg_u3 (hg_u3 (hg_u3 (hg_u3 (hg_u3 (hg_u3 (hg_u3 (hg_u3 (hg_u3 (hg_u3 (hg_u3 (hg_u3 (hg_u3 (hg_u3 (hg_u3 (hg_u3 (hg_u3 (hg_u3 (hg_u3 (hg_u3 (hg_u3 (hg_u3 (hg_u3 (hg_u3 (hg_u3 (hg_u3 (hg_u3 (hg_u3 (hg_u3 (hg_u3 (hg_u3 (hg_u3 (hg_u3 (hg_u3 (hg_u3 (hg_u3 (hg_u3 (hg_u3 (hg_u3 (hg_u3 (hg_u3 (hg_u3 (hg_u3 (hg_u3 (hg_u3 (hg_u3 (hg_u3 (hg_u3 (hg_u3 (hg_u3 (hg_u3 (hg_u3 (hg_u3 (hg_u3 (hg_u3 (hg_u3 (hg_u3 (hg_u3 (hg_u3 (hg_u3 (hg_u3 (hg_u3 (hg_u3 (hg_u3 (hg_u3 (hg_u3 hN0 7 0 0 (some (8, 0))) 7 0 1 (some (9, 0))) 0 0 3 (some (7, 0))) 7 1 0 (some (8, 1))) 7 1 1 (some (9, 1))) 0 0 4 (some (7, 1))) 7 2 0 (some (8, 2))) 7 2 1 (some (9, 2))) 0 0 5 (some (7, 2))) 7 3 0 (some (8, 3))) 7 3 1 (some (9, 3))) 0 0 6 (some (7, 3))) 7 4 0 (some (8, 4))) 7 4 1 (some (9, 4))) 0 0 7 (some (7, 4))) 7 5 0 (some (8, 5))) 7 5 1 (some (9, 5))) 0 0 8 (some (7, 5))) 10 0 0 (some (11, 0))) 10 0 3 (some (12, 0))) 0 0 10 (some (10, 0))) 13 0 0 (some (14, 0))) 0 0 12 (some (13, 0))) 0 0 13 (some (15, 0))) 0 0 14 (some (18, 0))) 19 0 0 (some (20, 0))) 1 0 0 (some (2, 0))) 1 0 1 (some (5, 0))) 1 0 8 (some (6, 0))) 1 0 7 (some (19, 0))) 3 0 7 (some (4, 0))) 2 0 0 (some (3, 0))) 3 1 7 (some (4, 1))) 2 0 1 (some (3, 1))) 3 2 7 (some (4, 2))) 2 0 2 (some (3, 2))) 3 3 7 (some (4, 3))) 2 0 3 (some (3, 3))) 3 4 7 (some (4, 4))) 2 0 4 (some (3, 4))) 3 5 7 (some (4, 5))) 2 0 5 (some (3, 5))) 0 0 0 (some (1, 0))) 1 1 0 (some (2, 1))) 1 1 1 (some (5, 1))) 1 1 8 (some (6, 1))) 1 1 7 (some (19, 0))) 3 6 7 (some (4, 6))) 2 1 0 (some (3, 6))) 3 7 7 (some (4, 7))) 2 1 1 (some (3, 7))) 3 8 7 (some (4, 8))) 2 1 2 (some (3, 8))) 3 9 7 (some (4, 9))) 2 1 3 (some (3, 9))) 3 10 7 (some (4, 10))) 2 1 4 (some (3, 10))) 3 11 7 (some (4, 11))) 2 1 5 (some (3, 11))) 0 0 1 (some (1, 1))) 1 2 0 (some (2, 2))) 1 2 1 (some (5, 2))) 1 2 8 (some (6, 2))) 1 2 7 (some (19, 0))) 3 12 7 (some (4, 12))) 2 2 0 (some (3, 12))) 3 13 7 (some (4, 13))) 2 2 1 (some (3, 13))) 3 14 7 (some (4, 14))) 2 2 2 (some (3, 14))) 3 15 7 (some (4, 15))) 2 2 3 (some (3, 15))) 3 16 7 (some (4, 16))) 2 2 4 (some (3, 16))) 3 17 7 (some (4, 17))) 2 2 5 (some (3, 17))) 0 0 2 (some (1, 2))) 16 0 2 (some (17, 0))) 15 0 0 (some (16, 0))) 16 1 2 (some (17, 1))) 15 0 1 (some (16, 1))) 16 2 2 (some (17, 2))) 15 0 2 (some (16, 2))), hxc 83) _
  refine hg_iinc2 (v := 3) d_D_init_191 rfl (by decide) ?_
  refine hg_goto (tgt := 172) d_D_init_194 (by decide) ?_
  refine hg_iload2 d_D_init_172 ?_
  refine hg_bipush (v := 6) d_D_init_173 (by decide) ?_
  refine hg_icmp_ge (tgt := 197) d_D_init_175 (by decide) (fun h_4 => absurd h_4 (by decide)) (fun h_4 => ?_)
  refine hg_aload0 d_D_init_178 ?_
  refine hg_getR d_D_init_179 f_D_51 rfl rfl (by decide +kernel) rfl ?_
  refine hg_iload2 d_D_init_182 ?_
  refine hx_new (m := 83) (k := 16) (i := 3) (by decide +kernel) (by decide) d_D_init_183 n_D_49 rfl (fun _ => rfl) (fun _ => rfl) (by decide) (by decide) ?_
  refine hg_dup d_D_init_186 rfl ?_
  refine hg_callN (host := "HangmanDinner") d_D_init_187 k_P_init (by simp [hg_nl]) (hg_in 213 (by decide +kernel) rfl) rfl rfl rfl (Nat.le_of_ble_eq_true rfl) (by decide) (m_P_init (m := 84) (t := 3) (by decide +kernel) (by decide) (by decide +kernel) (by decide +kernel) (fun _ => rfl) (fun _ => rfl)) rfl ?_
  rintro _ _ ⟨rfl, rfl⟩
  refine hg_aast d_D_init_190 rfl (Or.inr ⟨rfl, rfl⟩) (by decide +kernel) (hx_in (j := 3) (by decide)) rfl (by decide +kernel) ?_
  show hg_WP l E _ Y_D_init _ _ 191 [some (.ref (hg_ad E 0 0)), some (.ref (hg_ad E 19 0)), some (.int (3))] [] ((hg_u3 (hg_u3 (hg_u3 (hg_u3 (hg_u3 hZ0 19 0 1 60) 16 0 0 (-1)) 16 1 0 (-1)) 16 2 0 (-1)) 16 3 0 (-1)), hL0, (hg_u3 (hg_u3 (hg_u3 (hg_u3 (hg_u3 (hg_u3 (hg_u3 (hg_u3 (hg_u3 (hg_u3 (hg_u3 (hg_u3 (hg_u3 (hg_u3 (hg_u3 (hg_u3 (hg_u3 (hg_u3 (hg_u3 (hg_u3 (hg_u3 (hg_u3 (hg_u3 (hg_u3 (hg_u3 (hg_u3 (hg_u3 (hg_u3 (hg_u3 (hg_u3 (hg_u3 (hg_u3 (hg_u3 (hg_u3 (hg_u3 (hg_u3 (hg_u3 (hg_u3 (hg_u3 (hg_u3 (hg_u3 (hg_u3 (hg_u3 (hg_u3 (hg_u3 (hg_u3 (hg_u3 (hg_u3 (hg_u3 (hg_u3 (hg_u3 (hg_u3 (hg_u3 (hg_u3 (hg_u3 (hg_u3 (hg_u3 (hg_u3 (hg_u3 (hg_u3 (hg_u3 (hg_u3 (hg_u3 (hg_u3 (hg_u3 (hg_u3 (hg_u3 (hg_u3 (hg_u3 (hg_u3 (hg_u3 (hg_u3 (hg_u3 (hg_u3 (hg_u3 (hg_u3 (hg_u3 (hg_u3 (hg_u3 (hg_u3 (hg_u3 (hg_u3 (hg_u3 (hg_u3 (hg_u3 hN0 7 0 0 (some (8, 0))) 7 0 1 (some (9, 0))) 0 0 3 (some (7, 0))) 7 1 0 (some (8, 1))) 7 1 1 (some (9, 1))) 0 0 4 (some (7, 1))) 7 2 0 (some (8, 2))) 7 2 1 (some (9, 2))) 0 0 5 (some (7, 2))) 7 3 0 (some (8, 3))) 7 3 1 (some (9, 3))) 0 0 6 (some (7, 3))) 7 4 0 (some (8, 4))) 7 4 1 (some (9, 4))) 0 0 7 (some (7, 4))) 7 5 0 (some (8, 5))) 7 5 1 (some (9, 5))) 0 0 8 (some (7, 5))) 10 0 0 (some (11, 0))) 10 0 3 (some (12, 0))) 0 0 10 (some (10, 0))) 13 0 0 (some (14, 0))) 0 0 12 (some (13, 0))) 0 0 13 (some (15, 0))) 0 0 14 (some (18, 0))) 19 0 0 (some (20, 0))) 1 0 0 (some (2, 0))) 1 0 1 (some (5, 0))) 1 0 8 (some (6, 0))) 1 0 7 (some (19, 0))) 3 0 7 (some (4, 0))) 2 0 0 (some (3, 0))) 3 1 7 (some (4, 1))) 2 0 1 (some (3, 1))) 3 2 7 (some (4, 2))) 2 0 2 (some (3, 2))) 3 3 7 (some (4, 3))) 2 0 3 (some (3, 3))) 3 4 7 (some (4, 4))) 2 0 4 (some (3, 4))) 3 5 7 (some (4, 5))) 2 0 5 (some (3, 5))) 0 0 0 (some (1, 0))) 1 1 0 (some (2, 1))) 1 1 1 (some (5, 1))) 1 1 8 (some (6, 1))) 1 1 7 (some (19, 0))) 3 6 7 (some (4, 6))) 2 1 0 (some (3, 6))) 3 7 7 (some (4, 7))) 2 1 1 (some (3, 7))) 3 8 7 (some (4, 8))) 2 1 2 (some (3, 8))) 3 9 7 (some (4, 9))) 2 1 3 (some (3, 9))) 3 10 7 (some (4, 10))) 2 1 4 (some (3, 10))) 3 11 7 (some (4, 11))) 2 1 5 (some (3, 11))) 0 0 1 (some (1, 1))) 1 2 0 (some (2, 2))) 1 2 1 (some (5, 2))) 1 2 8 (some (6, 2))) 1 2 7 (some (19, 0))) 3 12 7 (some (4, 12))) 2 2 0 (some (3, 12))) 3 13 7 (some (4, 13))) 2 2 1 (some (3, 13))) 3 14 7 (some (4, 14))) 2 2 2 (some (3, 14))) 3 15 7 (some (4, 15))) 2 2 3 (some (3, 15))) 3 16 7 (some (4, 16))) 2 2 4 (some (3, 16))) 3 17 7 (some (4, 17))) 2 2 5 (some (3, 17))) 0 0 2 (some (1, 2))) 16 0 2 (some (17, 0))) 15 0 0 (some (16, 0))) 16 1 2 (some (17, 1))) 15 0 1 (some (16, 1))) 16 2 2 (some (17, 2))) 15 0 2 (some (16, 2))) 16 3 2 (some (17, 3))) 15 0 3 (some (16, 3))), hxc 85) _
  refine hg_iinc2 (v := 4) d_D_init_191 rfl (by decide) ?_
  refine hg_goto (tgt := 172) d_D_init_194 (by decide) ?_
  refine hg_iload2 d_D_init_172 ?_
  refine hg_bipush (v := 6) d_D_init_173 (by decide) ?_
  refine hg_icmp_ge (tgt := 197) d_D_init_175 (by decide) (fun h_5 => absurd h_5 (by decide)) (fun h_5 => ?_)
  refine hg_aload0 d_D_init_178 ?_
  refine hg_getR d_D_init_179 f_D_51 rfl rfl (by decide +kernel) rfl ?_
  refine hg_iload2 d_D_init_182 ?_
  refine hx_new (m := 85) (k := 16) (i := 4) (by decide +kernel) (by decide) d_D_init_183 n_D_49 rfl (fun _ => rfl) (fun _ => rfl) (by decide) (by decide) ?_
  refine hg_dup d_D_init_186 rfl ?_
  refine hg_callN (host := "HangmanDinner") d_D_init_187 k_P_init (by simp [hg_nl]) (hg_in 213 (by decide +kernel) rfl) rfl rfl rfl (Nat.le_of_ble_eq_true rfl) (by decide) (m_P_init (m := 86) (t := 4) (by decide +kernel) (by decide) (by decide +kernel) (by decide +kernel) (fun _ => rfl) (fun _ => rfl)) rfl ?_
  rintro _ _ ⟨rfl, rfl⟩
  refine hg_aast d_D_init_190 rfl (Or.inr ⟨rfl, rfl⟩) (by decide +kernel) (hx_in (j := 4) (by decide)) rfl (by decide +kernel) ?_
  show hg_WP l E _ Y_D_init _ _ 191 [some (.ref (hg_ad E 0 0)), some (.ref (hg_ad E 19 0)), some (.int (4))] [] ((hg_u3 (hg_u3 (hg_u3 (hg_u3 (hg_u3 (hg_u3 hZ0 19 0 1 60) 16 0 0 (-1)) 16 1 0 (-1)) 16 2 0 (-1)) 16 3 0 (-1)) 16 4 0 (-1)), hL0, (hg_u3 (hg_u3 (hg_u3 (hg_u3 (hg_u3 (hg_u3 (hg_u3 (hg_u3 (hg_u3 (hg_u3 (hg_u3 (hg_u3 (hg_u3 (hg_u3 (hg_u3 (hg_u3 (hg_u3 (hg_u3 (hg_u3 (hg_u3 (hg_u3 (hg_u3 (hg_u3 (hg_u3 (hg_u3 (hg_u3 (hg_u3 (hg_u3 (hg_u3 (hg_u3 (hg_u3 (hg_u3 (hg_u3 (hg_u3 (hg_u3 (hg_u3 (hg_u3 (hg_u3 (hg_u3 (hg_u3 (hg_u3 (hg_u3 (hg_u3 (hg_u3 (hg_u3 (hg_u3 (hg_u3 (hg_u3 (hg_u3 (hg_u3 (hg_u3 (hg_u3 (hg_u3 (hg_u3 (hg_u3 (hg_u3 (hg_u3 (hg_u3 (hg_u3 (hg_u3 (hg_u3 (hg_u3 (hg_u3 (hg_u3 (hg_u3 (hg_u3 (hg_u3 (hg_u3 (hg_u3 (hg_u3 (hg_u3 (hg_u3 (hg_u3 (hg_u3 (hg_u3 (hg_u3 (hg_u3 (hg_u3 (hg_u3 (hg_u3 (hg_u3 (hg_u3 (hg_u3 (hg_u3 (hg_u3 (hg_u3 (hg_u3 hN0 7 0 0 (some (8, 0))) 7 0 1 (some (9, 0))) 0 0 3 (some (7, 0))) 7 1 0 (some (8, 1))) 7 1 1 (some (9, 1))) 0 0 4 (some (7, 1))) 7 2 0 (some (8, 2))) 7 2 1 (some (9, 2))) 0 0 5 (some (7, 2))) 7 3 0 (some (8, 3))) 7 3 1 (some (9, 3))) 0 0 6 (some (7, 3))) 7 4 0 (some (8, 4))) 7 4 1 (some (9, 4))) 0 0 7 (some (7, 4))) 7 5 0 (some (8, 5))) 7 5 1 (some (9, 5))) 0 0 8 (some (7, 5))) 10 0 0 (some (11, 0))) 10 0 3 (some (12, 0))) 0 0 10 (some (10, 0))) 13 0 0 (some (14, 0))) 0 0 12 (some (13, 0))) 0 0 13 (some (15, 0))) 0 0 14 (some (18, 0))) 19 0 0 (some (20, 0))) 1 0 0 (some (2, 0))) 1 0 1 (some (5, 0))) 1 0 8 (some (6, 0))) 1 0 7 (some (19, 0))) 3 0 7 (some (4, 0))) 2 0 0 (some (3, 0))) 3 1 7 (some (4, 1))) 2 0 1 (some (3, 1))) 3 2 7 (some (4, 2))) 2 0 2 (some (3, 2))) 3 3 7 (some (4, 3))) 2 0 3 (some (3, 3))) 3 4 7 (some (4, 4))) 2 0 4 (some (3, 4))) 3 5 7 (some (4, 5))) 2 0 5 (some (3, 5))) 0 0 0 (some (1, 0))) 1 1 0 (some (2, 1))) 1 1 1 (some (5, 1))) 1 1 8 (some (6, 1))) 1 1 7 (some (19, 0))) 3 6 7 (some (4, 6))) 2 1 0 (some (3, 6))) 3 7 7 (some (4, 7))) 2 1 1 (some (3, 7))) 3 8 7 (some (4, 8))) 2 1 2 (some (3, 8))) 3 9 7 (some (4, 9))) 2 1 3 (some (3, 9))) 3 10 7 (some (4, 10))) 2 1 4 (some (3, 10))) 3 11 7 (some (4, 11))) 2 1 5 (some (3, 11))) 0 0 1 (some (1, 1))) 1 2 0 (some (2, 2))) 1 2 1 (some (5, 2))) 1 2 8 (some (6, 2))) 1 2 7 (some (19, 0))) 3 12 7 (some (4, 12))) 2 2 0 (some (3, 12))) 3 13 7 (some (4, 13))) 2 2 1 (some (3, 13))) 3 14 7 (some (4, 14))) 2 2 2 (some (3, 14))) 3 15 7 (some (4, 15))) 2 2 3 (some (3, 15))) 3 16 7 (some (4, 16))) 2 2 4 (some (3, 16))) 3 17 7 (some (4, 17))) 2 2 5 (some (3, 17))) 0 0 2 (some (1, 2))) 16 0 2 (some (17, 0))) 15 0 0 (some (16, 0))) 16 1 2 (some (17, 1))) 15 0 1 (some (16, 1))) 16 2 2 (some (17, 2))) 15 0 2 (some (16, 2))) 16 3 2 (some (17, 3))) 15 0 3 (some (16, 3))) 16 4 2 (some (17, 4))) 15 0 4 (some (16, 4))), hxc 87) _
  refine hg_iinc2 (v := 5) d_D_init_191 rfl (by decide) ?_
  refine hg_goto (tgt := 172) d_D_init_194 (by decide) ?_
  refine hg_iload2 d_D_init_172 ?_
  refine hg_bipush (v := 6) d_D_init_173 (by decide) ?_
  refine hg_icmp_ge (tgt := 197) d_D_init_175 (by decide) (fun h_6 => absurd h_6 (by decide)) (fun h_6 => ?_)
  refine hg_aload0 d_D_init_178 ?_
  refine hg_getR d_D_init_179 f_D_51 rfl rfl (by decide +kernel) rfl ?_
  refine hg_iload2 d_D_init_182 ?_
  refine hx_new (m := 87) (k := 16) (i := 5) (by decide +kernel) (by decide) d_D_init_183 n_D_49 rfl (fun _ => rfl) (fun _ => rfl) (by decide) (by decide) ?_
  refine hg_dup d_D_init_186 rfl ?_
  refine hg_callN (host := "HangmanDinner") d_D_init_187 k_P_init (by simp [hg_nl]) (hg_in 213 (by decide +kernel) rfl) rfl rfl rfl (Nat.le_of_ble_eq_true rfl) (by decide) (m_P_init (m := 88) (t := 5) (by decide +kernel) (by decide) (by decide +kernel) (by decide +kernel) (fun _ => rfl) (fun _ => rfl)) rfl ?_
  rintro _ _ ⟨rfl, rfl⟩
  refine hg_aast d_D_init_190 rfl (Or.inr ⟨rfl, rfl⟩) (by decide +kernel) (hx_in (j := 5) (by decide)) rfl (by decide +kernel) ?_
  show hg_WP l E _ Y_D_init _ _ 191 [some (.ref (hg_ad E 0 0)), some (.ref (hg_ad E 19 0)), some (.int (5))] [] ((hg_u3 (hg_u3 (hg_u3 (hg_u3 (hg_u3 (hg_u3 (hg_u3 hZ0 19 0 1 60) 16 0 0 (-1)) 16 1 0 (-1)) 16 2 0 (-1)) 16 3 0 (-1)) 16 4 0 (-1)) 16 5 0 (-1)), hL0, (hg_u3 (hg_u3 (hg_u3 (hg_u3 (hg_u3 (hg_u3 (hg_u3 (hg_u3 (hg_u3 (hg_u3 (hg_u3 (hg_u3 (hg_u3 (hg_u3 (hg_u3 (hg_u3 (hg_u3 (hg_u3 (hg_u3 (hg_u3 (hg_u3 (hg_u3 (hg_u3 (hg_u3 (hg_u3 (hg_u3 (hg_u3 (hg_u3 (hg_u3 (hg_u3 (hg_u3 (hg_u3 (hg_u3 (hg_u3 (hg_u3 (hg_u3 (hg_u3 (hg_u3 (hg_u3 (hg_u3 (hg_u3 (hg_u3 (hg_u3 (hg_u3 (hg_u3 (hg_u3 (hg_u3 (hg_u3 (hg_u3 (hg_u3 (hg_u3 (hg_u3 (hg_u3 (hg_u3 (hg_u3 (hg_u3 (hg_u3 (hg_u3 (hg_u3 (hg_u3 (hg_u3 (hg_u3 (hg_u3 (hg_u3 (hg_u3 (hg_u3 (hg_u3 (hg_u3 (hg_u3 (hg_u3 (hg_u3 (hg_u3 (hg_u3 (hg_u3 (hg_u3 (hg_u3 (hg_u3 (hg_u3 (hg_u3 (hg_u3 (hg_u3 (hg_u3 (hg_u3 (hg_u3 (hg_u3 (hg_u3 (hg_u3 (hg_u3 (hg_u3 hN0 7 0 0 (some (8, 0))) 7 0 1 (some (9, 0))) 0 0 3 (some (7, 0))) 7 1 0 (some (8, 1))) 7 1 1 (some (9, 1))) 0 0 4 (some (7, 1))) 7 2 0 (some (8, 2))) 7 2 1 (some (9, 2))) 0 0 5 (some (7, 2))) 7 3 0 (some (8, 3))) 7 3 1 (some (9, 3))) 0 0 6 (some (7, 3))) 7 4 0 (some (8, 4))) 7 4 1 (some (9, 4))) 0 0 7 (some (7, 4))) 7 5 0 (some (8, 5))) 7 5 1 (some (9, 5))) 0 0 8 (some (7, 5))) 10 0 0 (some (11, 0))) 10 0 3 (some (12, 0))) 0 0 10 (some (10, 0))) 13 0 0 (some (14, 0))) 0 0 12 (some (13, 0))) 0 0 13 (some (15, 0))) 0 0 14 (some (18, 0))) 19 0 0 (some (20, 0))) 1 0 0 (some (2, 0))) 1 0 1 (some (5, 0))) 1 0 8 (some (6, 0))) 1 0 7 (some (19, 0))) 3 0 7 (some (4, 0))) 2 0 0 (some (3, 0))) 3 1 7 (some (4, 1))) 2 0 1 (some (3, 1))) 3 2 7 (some (4, 2))) 2 0 2 (some (3, 2))) 3 3 7 (some (4, 3))) 2 0 3 (some (3, 3))) 3 4 7 (some (4, 4))) 2 0 4 (some (3, 4))) 3 5 7 (some (4, 5))) 2 0 5 (some (3, 5))) 0 0 0 (some (1, 0))) 1 1 0 (some (2, 1))) 1 1 1 (some (5, 1))) 1 1 8 (some (6, 1))) 1 1 7 (some (19, 0))) 3 6 7 (some (4, 6))) 2 1 0 (some (3, 6))) 3 7 7 (some (4, 7))) 2 1 1 (some (3, 7))) 3 8 7 (some (4, 8))) 2 1 2 (some (3, 8))) 3 9 7 (some (4, 9))) 2 1 3 (some (3, 9))) 3 10 7 (some (4, 10))) 2 1 4 (some (3, 10))) 3 11 7 (some (4, 11))) 2 1 5 (some (3, 11))) 0 0 1 (some (1, 1))) 1 2 0 (some (2, 2))) 1 2 1 (some (5, 2))) 1 2 8 (some (6, 2))) 1 2 7 (some (19, 0))) 3 12 7 (some (4, 12))) 2 2 0 (some (3, 12))) 3 13 7 (some (4, 13))) 2 2 1 (some (3, 13))) 3 14 7 (some (4, 14))) 2 2 2 (some (3, 14))) 3 15 7 (some (4, 15))) 2 2 3 (some (3, 15))) 3 16 7 (some (4, 16))) 2 2 4 (some (3, 16))) 3 17 7 (some (4, 17))) 2 2 5 (some (3, 17))) 0 0 2 (some (1, 2))) 16 0 2 (some (17, 0))) 15 0 0 (some (16, 0))) 16 1 2 (some (17, 1))) 15 0 1 (some (16, 1))) 16 2 2 (some (17, 2))) 15 0 2 (some (16, 2))) 16 3 2 (some (17, 3))) 15 0 3 (some (16, 3))) 16 4 2 (some (17, 4))) 15 0 4 (some (16, 4))) 16 5 2 (some (17, 5))) 15 0 5 (some (16, 5))), hxc 89) _
  refine hg_iinc2 (v := 6) d_D_init_191 rfl (by decide) ?_
  refine hg_goto (tgt := 172) d_D_init_194 (by decide) ?_
  refine hg_iload2 d_D_init_172 ?_
  refine hg_bipush (v := 6) d_D_init_173 (by decide) ?_
  refine hg_icmp_ge (tgt := 197) d_D_init_175 (by decide) (fun h_7 => ?_) (fun h_7 => absurd (by decide) h_7)
  refine hg_return d_D_init_197 rfl ?_
  rfl
def hI1 : Nat → Nat → Nat → Int32 := (hg_u3 (hg_u3 (hg_u3 (hg_u3 (hg_u3 (hg_u3 (hg_u3 hZ0 19 0 1 60) 16 0 0 (-1)) 16 1 0 (-1)) 16 2 0 (-1)) 16 3 0 (-1)) 16 4 0 (-1)) 16 5 0 (-1))
def hRf1 : Nat → Nat → Nat → Option (Nat × Nat) := (hg_u3 (hg_u3 (hg_u3 (hg_u3 (hg_u3 (hg_u3 (hg_u3 (hg_u3 (hg_u3 (hg_u3 (hg_u3 (hg_u3 (hg_u3 (hg_u3 (hg_u3 (hg_u3 (hg_u3 (hg_u3 (hg_u3 (hg_u3 (hg_u3 (hg_u3 (hg_u3 (hg_u3 (hg_u3 (hg_u3 (hg_u3 (hg_u3 (hg_u3 (hg_u3 (hg_u3 (hg_u3 (hg_u3 (hg_u3 (hg_u3 (hg_u3 (hg_u3 (hg_u3 (hg_u3 (hg_u3 (hg_u3 (hg_u3 (hg_u3 (hg_u3 (hg_u3 (hg_u3 (hg_u3 (hg_u3 (hg_u3 (hg_u3 (hg_u3 (hg_u3 (hg_u3 (hg_u3 (hg_u3 (hg_u3 (hg_u3 (hg_u3 (hg_u3 (hg_u3 (hg_u3 (hg_u3 (hg_u3 (hg_u3 (hg_u3 (hg_u3 (hg_u3 (hg_u3 (hg_u3 (hg_u3 (hg_u3 (hg_u3 (hg_u3 (hg_u3 (hg_u3 (hg_u3 (hg_u3 (hg_u3 (hg_u3 (hg_u3 (hg_u3 (hg_u3 (hg_u3 (hg_u3 (hg_u3 (hg_u3 (hg_u3 (hg_u3 (hg_u3 hN0 7 0 0 (some (8, 0))) 7 0 1 (some (9, 0))) 0 0 3 (some (7, 0))) 7 1 0 (some (8, 1))) 7 1 1 (some (9, 1))) 0 0 4 (some (7, 1))) 7 2 0 (some (8, 2))) 7 2 1 (some (9, 2))) 0 0 5 (some (7, 2))) 7 3 0 (some (8, 3))) 7 3 1 (some (9, 3))) 0 0 6 (some (7, 3))) 7 4 0 (some (8, 4))) 7 4 1 (some (9, 4))) 0 0 7 (some (7, 4))) 7 5 0 (some (8, 5))) 7 5 1 (some (9, 5))) 0 0 8 (some (7, 5))) 10 0 0 (some (11, 0))) 10 0 3 (some (12, 0))) 0 0 10 (some (10, 0))) 13 0 0 (some (14, 0))) 0 0 12 (some (13, 0))) 0 0 13 (some (15, 0))) 0 0 14 (some (18, 0))) 19 0 0 (some (20, 0))) 1 0 0 (some (2, 0))) 1 0 1 (some (5, 0))) 1 0 8 (some (6, 0))) 1 0 7 (some (19, 0))) 3 0 7 (some (4, 0))) 2 0 0 (some (3, 0))) 3 1 7 (some (4, 1))) 2 0 1 (some (3, 1))) 3 2 7 (some (4, 2))) 2 0 2 (some (3, 2))) 3 3 7 (some (4, 3))) 2 0 3 (some (3, 3))) 3 4 7 (some (4, 4))) 2 0 4 (some (3, 4))) 3 5 7 (some (4, 5))) 2 0 5 (some (3, 5))) 0 0 0 (some (1, 0))) 1 1 0 (some (2, 1))) 1 1 1 (some (5, 1))) 1 1 8 (some (6, 1))) 1 1 7 (some (19, 0))) 3 6 7 (some (4, 6))) 2 1 0 (some (3, 6))) 3 7 7 (some (4, 7))) 2 1 1 (some (3, 7))) 3 8 7 (some (4, 8))) 2 1 2 (some (3, 8))) 3 9 7 (some (4, 9))) 2 1 3 (some (3, 9))) 3 10 7 (some (4, 10))) 2 1 4 (some (3, 10))) 3 11 7 (some (4, 11))) 2 1 5 (some (3, 11))) 0 0 1 (some (1, 1))) 1 2 0 (some (2, 2))) 1 2 1 (some (5, 2))) 1 2 8 (some (6, 2))) 1 2 7 (some (19, 0))) 3 12 7 (some (4, 12))) 2 2 0 (some (3, 12))) 3 13 7 (some (4, 13))) 2 2 1 (some (3, 13))) 3 14 7 (some (4, 14))) 2 2 2 (some (3, 14))) 3 15 7 (some (4, 15))) 2 2 3 (some (3, 15))) 3 16 7 (some (4, 16))) 2 2 4 (some (3, 16))) 3 17 7 (some (4, 17))) 2 2 5 (some (3, 17))) 0 0 2 (some (1, 2))) 16 0 2 (some (17, 0))) 15 0 0 (some (16, 0))) 16 1 2 (some (17, 1))) 15 0 1 (some (16, 1))) 16 2 2 (some (17, 2))) 15 0 2 (some (16, 2))) 16 3 2 (some (17, 3))) 15 0 3 (some (16, 3))) 16 4 2 (some (17, 4))) 15 0 4 (some (16, 4))) 16 5 2 (some (17, 5))) 15 0 5 (some (16, 5)))
theorem m_M_init  : hg_MC l E (d + 1) Y_M_init 30 4000 [.ref (hg_ad E 21 0)] (hI1, hL0, hRf1, hxc 90) (hg_v (fun M' => M' = ((hg_u3 (hg_u3 (hg_u3 (hg_u3 (hg_u3 (hg_u3 (hg_u3 hI1 21 0 21 (-1)) 22 26 0 (-1)) 22 26 1 (-1)) 22 26 2 (-1)) 22 26 3 (-1)) 22 26 4 (-1)) 22 26 5 (-1)), hL0, (hg_u3 (hg_u3 (hg_u3 (hg_u3 (hg_u3 (hg_u3 (hg_u3 (hg_u3 (hg_u3 (hg_u3 (hg_u3 (hg_u3 (hg_u3 (hg_u3 (hg_u3 (hg_u3 (hg_u3 (hg_u3 (hg_u3 (hg_u3 (hg_u3 (hg_u3 (hg_u3 (hg_u3 (hg_u3 (hg_u3 (hg_u3 (hg_u3 (hg_u3 (hg_u3 hRf1 21 0 1 (some (22, 0))) 21 0 2 (some (22, 1))) 21 0 3 (some (22, 2))) 21 0 4 (some (22, 3))) 21 0 5 (some (22, 4))) 21 0 6 (some (22, 5))) 21 0 7 (some (22, 6))) 21 0 8 (some (22, 7))) 21 0 9 (some (22, 8))) 21 0 15 (some (22, 9))) 21 0 22 (some (22, 10))) 21 0 23 (some (22, 11))) 21 0 24 (some (22, 12))) 21 0 25 (some (22, 13))) 21 0 26 (some (22, 14))) 21 0 27 (some (22, 15))) 21 0 29 (some (24, 0))) 21 0 31 (some (22, 16))) 21 0 32 (some (22, 17))) 21 0 34 (some (22, 18))) 21 0 35 (some (22, 19))) 21 0 37 (some (22, 20))) 21 0 38 (some (22, 21))) 21 0 40 (some (22, 22))) 21 0 42 (some (22, 23))) 21 0 43 (some (22, 24))) 21 0 44 (some (22, 25))) 21 0 45 (some (22, 26))) 21 0 46 (some (22, 27))) 21 0 47 (some (23, 0))), hxc 120))) := by
  refine hg_mc k_M_init (Nat.le_of_ble_eq_true rfl) ?_
  show hg_WP l E _ Y_M_init 30 4000 0 [some (.ref (hg_ad E 21 0)), none] [] (hI1, hL0, hRf1, hxc 90) _
  refine hg_aload0 d_M_init_0 ?_
  refine hg_objInit d_M_init_1 l_M_3 ?_
  refine hg_aload0 d_M_init_4 ?_
  refine hg_bipush (v := 6) d_M_init_5 (by decide) ?_
  refine hx_newa (m := 90) (k := 22) (i := 0) (N := 6) (by decide +kernel) d_M_init_7 rfl rfl (by decide) hg_ac_int (by decide) (by decide) (by decide) (by decide) (fun _ => rfl) (fun _ => rfl) (by decide) (by decide) ?_
  refine hg_putR d_M_init_9 f_M_9 rfl rfl (Or.inr ⟨rfl, rfl, rfl⟩) (fun _ => rfl) (fun _ => rfl) (by decide +kernel) ?_
  refine hg_aload0 d_M_init_12 ?_
  refine hg_bipush (v := 6) d_M_init_13 (by decide) ?_
  refine hx_newa (m := 91) (k := 22) (i := 1) (N := 6) (by decide +kernel) d_M_init_15 rfl rfl (by decide) hg_ac_int (by decide) (by decide) (by decide) (by decide) (fun _ => rfl) (fun _ => rfl) (by decide) (by decide) ?_
  refine hg_putR d_M_init_17 f_M_15 rfl rfl (Or.inr ⟨rfl, rfl, rfl⟩) (fun _ => rfl) (fun _ => rfl) (by decide +kernel) ?_
  refine hg_aload0 d_M_init_20 ?_
  refine hg_bipush (v := 6) d_M_init_21 (by decide) ?_
  refine hx_newa (m := 92) (k := 22) (i := 2) (N := 6) (by decide +kernel) d_M_init_23 rfl rfl (by decide) hg_ac_int (by decide) (by decide) (by decide) (by decide) (fun _ => rfl) (fun _ => rfl) (by decide) (by decide) ?_
  refine hg_putR d_M_init_25 f_M_18 rfl rfl (Or.inr ⟨rfl, rfl, rfl⟩) (fun _ => rfl) (fun _ => rfl) (by decide +kernel) ?_
  refine hg_aload0 d_M_init_28 ?_
  refine hg_bipush (v := 6) d_M_init_29 (by decide) ?_
  refine hx_newa (m := 93) (k := 22) (i := 3) (N := 6) (by decide +kernel) d_M_init_31 rfl rfl (by decide) hg_ac_int (by decide) (by decide) (by decide) (by decide) (fun _ => rfl) (fun _ => rfl) (by decide) (by decide) ?_
  refine hg_putR d_M_init_33 f_M_21 rfl rfl (Or.inr ⟨rfl, rfl, rfl⟩) (fun _ => rfl) (fun _ => rfl) (by decide +kernel) ?_
  refine hg_aload0 d_M_init_36 ?_
  refine hg_bipush (v := 6) d_M_init_37 (by decide) ?_
  refine hx_newa (m := 94) (k := 22) (i := 4) (N := 6) (by decide +kernel) d_M_init_39 rfl rfl (by decide) hg_ac_int (by decide) (by decide) (by decide) (by decide) (fun _ => rfl) (fun _ => rfl) (by decide) (by decide) ?_
  refine hg_putR d_M_init_41 f_M_24 rfl rfl (Or.inr ⟨rfl, rfl, rfl⟩) (fun _ => rfl) (fun _ => rfl) (by decide +kernel) ?_
  refine hg_aload0 d_M_init_44 ?_
  refine hg_bipush (v := 6) d_M_init_45 (by decide) ?_
  refine hx_newa (m := 95) (k := 22) (i := 5) (N := 6) (by decide +kernel) d_M_init_47 rfl rfl (by decide) hg_ac_int (by decide) (by decide) (by decide) (by decide) (fun _ => rfl) (fun _ => rfl) (by decide) (by decide) ?_
  refine hg_putR d_M_init_49 f_M_27 rfl rfl (Or.inr ⟨rfl, rfl, rfl⟩) (fun _ => rfl) (fun _ => rfl) (by decide +kernel) ?_
  refine hg_aload0 d_M_init_52 ?_
  refine hg_bipush (v := 6) d_M_init_53 (by decide) ?_
  refine hx_newa (m := 96) (k := 22) (i := 6) (N := 6) (by decide +kernel) d_M_init_55 rfl rfl (by decide) hg_ac_int (by decide) (by decide) (by decide) (by decide) (fun _ => rfl) (fun _ => rfl) (by decide) (by decide) ?_
  refine hg_putR d_M_init_57 f_M_30 rfl rfl (Or.inr ⟨rfl, rfl, rfl⟩) (fun _ => rfl) (fun _ => rfl) (by decide +kernel) ?_
  refine hg_aload0 d_M_init_60 ?_
  refine hg_bipush (v := 24) d_M_init_61 (by decide) ?_
  refine hx_newa (m := 97) (k := 22) (i := 7) (N := 24) (by decide +kernel) d_M_init_63 rfl rfl (by decide) hg_ac_int (by decide) (by decide) (by decide) (by decide) (fun _ => rfl) (fun _ => rfl) (by decide) (by decide) ?_
  refine hg_putR d_M_init_65 f_M_33 rfl rfl (Or.inr ⟨rfl, rfl, rfl⟩) (fun _ => rfl) (fun _ => rfl) (by decide +kernel) ?_
  refine hg_aload0 d_M_init_68 ?_
  refine hg_bipush (v := 6) d_M_init_69 (by decide) ?_
  refine hx_newa (m := 98) (k := 22) (i := 8) (N := 6) (by decide +kernel) d_M_init_71 rfl rfl (by decide) hg_ac_int (by decide) (by decide) (by decide) (by decide) (fun _ => rfl) (fun _ => rfl) (by decide) (by decide) ?_
  refine hg_putR d_M_init_73 f_M_36 rfl rfl (Or.inr ⟨rfl, rfl, rfl⟩) (fun _ => rfl) (fun _ => rfl) (by decide +kernel) ?_
  refine hg_aload0 d_M_init_76 ?_
  refine hg_bipush (v := 100) d_M_init_77 (by decide) ?_
  refine hx_newa (m := 99) (k := 22) (i := 9) (N := 100) (by decide +kernel) d_M_init_79 rfl rfl (by decide) hg_ac_int (by decide) (by decide) (by decide) (by decide) (fun _ => rfl) (fun _ => rfl) (by decide) (by decide) ?_
  refine hg_putR d_M_init_81 f_M_39 rfl rfl (Or.inr ⟨rfl, rfl, rfl⟩) (fun _ => rfl) (fun _ => rfl) (by decide +kernel) ?_
  refine hg_aload0 d_M_init_84 ?_
  refine hg_bipush (v := 6) d_M_init_85 (by decide) ?_
  refine hx_newa (m := 100) (k := 22) (i := 10) (N := 6) (by decide +kernel) d_M_init_87 rfl rfl (by decide) hg_ac_int (by decide) (by decide) (by decide) (by decide) (fun _ => rfl) (fun _ => rfl) (by decide) (by decide) ?_
  refine hg_putR d_M_init_89 f_M_42 rfl rfl (Or.inr ⟨rfl, rfl, rfl⟩) (fun _ => rfl) (fun _ => rfl) (by decide +kernel) ?_
  refine hg_aload0 d_M_init_92 ?_
  refine hg_bipush (v := 61) d_M_init_93 (by decide) ?_
  refine hx_newa (m := 101) (k := 22) (i := 11) (N := 61) (by decide +kernel) d_M_init_95 rfl rfl (by decide) hg_ac_int (by decide) (by decide) (by decide) (by decide) (fun _ => rfl) (fun _ => rfl) (by decide) (by decide) ?_
  refine hg_putR d_M_init_97 f_M_45 rfl rfl (Or.inr ⟨rfl, rfl, rfl⟩) (fun _ => rfl) (fun _ => rfl) (by decide +kernel) ?_
  refine hg_aload0 d_M_init_100 ?_
  refine hg_bipush (v := 61) d_M_init_101 (by decide) ?_
  refine hx_newa (m := 102) (k := 22) (i := 12) (N := 61) (by decide +kernel) d_M_init_103 rfl rfl (by decide) hg_ac_int (by decide) (by decide) (by decide) (by decide) (fun _ => rfl) (fun _ => rfl) (by decide) (by decide) ?_
  refine hg_putR d_M_init_105 f_M_48 rfl rfl (Or.inr ⟨rfl, rfl, rfl⟩) (fun _ => rfl) (fun _ => rfl) (by decide +kernel) ?_
  refine hg_aload0 d_M_init_108 ?_
  refine hg_bipush (v := 61) d_M_init_109 (by decide) ?_
  refine hx_newa (m := 103) (k := 22) (i := 13) (N := 61) (by decide +kernel) d_M_init_111 rfl rfl (by decide) hg_ac_int (by decide) (by decide) (by decide) (by decide) (fun _ => rfl) (fun _ => rfl) (by decide) (by decide) ?_
  refine hg_putR d_M_init_113 f_M_51 rfl rfl (Or.inr ⟨rfl, rfl, rfl⟩) (fun _ => rfl) (fun _ => rfl) (by decide +kernel) ?_
  refine hg_aload0 d_M_init_116 ?_
  refine hg_bipush (v := 61) d_M_init_117 (by decide) ?_
  refine hx_newa (m := 104) (k := 22) (i := 14) (N := 61) (by decide +kernel) d_M_init_119 rfl rfl (by decide) hg_ac_int (by decide) (by decide) (by decide) (by decide) (fun _ => rfl) (fun _ => rfl) (by decide) (by decide) ?_
  refine hg_putR d_M_init_121 f_M_54 rfl rfl (Or.inr ⟨rfl, rfl, rfl⟩) (fun _ => rfl) (fun _ => rfl) (by decide +kernel) ?_
  refine hg_aload0 d_M_init_124 ?_
  refine hg_sipush (v := 800) d_M_init_125 (by decide) ?_
  refine hx_newa (m := 105) (k := 22) (i := 15) (N := 800) (by decide +kernel) d_M_init_128 rfl rfl (by decide) hg_ac_int (by decide) (by decide) (by decide) (by decide) (fun _ => rfl) (fun _ => rfl) (by decide) (by decide) ?_
  refine hg_putR d_M_init_130 f_M_57 rfl rfl (Or.inr ⟨rfl, rfl, rfl⟩) (fun _ => rfl) (fun _ => rfl) (by decide +kernel) ?_
  refine hg_aload0 d_M_init_133 ?_
  refine hg_bipush (v := 110) d_M_init_134 (by decide) ?_
  refine hx_newa (m := 106) (k := 24) (i := 0) (N := 110) (by decide +kernel) d_M_init_136 rfl rfl (by decide) hg_ac_boolean (by decide) (by decide) (by decide) (by decide) (fun _ => rfl) (fun _ => rfl) (by decide) (by decide) ?_
  refine hg_putR d_M_init_138 f_M_60 rfl rfl (Or.inr ⟨rfl, rfl, rfl⟩) (fun _ => rfl) (fun _ => rfl) (by decide +kernel) ?_
  refine hg_aload0 d_M_init_141 ?_
  refine hg_iconst (v := 5) d_M_init_142 (by decide) ?_
  refine hx_newa (m := 107) (k := 22) (i := 16) (N := 5) (by decide +kernel) d_M_init_143 rfl rfl (by decide) hg_ac_int (by decide) (by decide) (by decide) (by decide) (fun _ => rfl) (fun _ => rfl) (by decide) (by decide) ?_
  refine hg_putR d_M_init_145 f_M_64 rfl rfl (Or.inr ⟨rfl, rfl, rfl⟩) (fun _ => rfl) (fun _ => rfl) (by decide +kernel) ?_
  refine hg_aload0 d_M_init_148 ?_
  refine hg_iconst (v := 5) d_M_init_149 (by decide) ?_
  refine hx_newa (m := 108) (k := 22) (i := 17) (N := 5) (by decide +kernel) d_M_init_150 rfl rfl (by decide) hg_ac_int (by decide) (by decide) (by decide) (by decide) (fun _ => rfl) (fun _ => rfl) (by decide) (by decide) ?_
  refine hg_putR d_M_init_152 f_M_67 rfl rfl (Or.inr ⟨rfl, rfl, rfl⟩) (fun _ => rfl) (fun _ => rfl) (by decide +kernel) ?_
  refine hg_aload0 d_M_init_155 ?_
  refine hg_bipush (v := 10) d_M_init_156 (by decide) ?_
  refine hx_newa (m := 109) (k := 22) (i := 18) (N := 10) (by decide +kernel) d_M_init_158 rfl rfl (by decide) hg_ac_int (by decide) (by decide) (by decide) (by decide) (fun _ => rfl) (fun _ => rfl) (by decide) (by decide) ?_
  refine hg_putR d_M_init_160 f_M_70 rfl rfl (Or.inr ⟨rfl, rfl, rfl⟩) (fun _ => rfl) (fun _ => rfl) (by decide +kernel) ?_
  refine hg_aload0 d_M_init_163 ?_
  refine hg_bipush (v := 10) d_M_init_164 (by decide) ?_
  refine hx_newa (m := 110) (k := 22) (i := 19) (N := 10) (by decide +kernel) d_M_init_166 rfl rfl (by decide) hg_ac_int (by decide) (by decide) (by decide) (by decide) (fun _ => rfl) (fun _ => rfl) (by decide) (by decide) ?_
  refine hg_putR d_M_init_168 f_M_73 rfl rfl (Or.inr ⟨rfl, rfl, rfl⟩) (fun _ => rfl) (fun _ => rfl) (by decide +kernel) ?_
  refine hg_aload0 d_M_init_171 ?_
  refine hg_bipush (v := 8) d_M_init_172 (by decide) ?_
  refine hx_newa (m := 111) (k := 22) (i := 20) (N := 8) (by decide +kernel) d_M_init_174 rfl rfl (by decide) hg_ac_int (by decide) (by decide) (by decide) (by decide) (fun _ => rfl) (fun _ => rfl) (by decide) (by decide) ?_
  refine hg_putR d_M_init_176 f_M_76 rfl rfl (Or.inr ⟨rfl, rfl, rfl⟩) (fun _ => rfl) (fun _ => rfl) (by decide +kernel) ?_
  refine hg_aload0 d_M_init_179 ?_
  refine hg_bipush (v := 8) d_M_init_180 (by decide) ?_
  refine hx_newa (m := 112) (k := 22) (i := 21) (N := 8) (by decide +kernel) d_M_init_182 rfl rfl (by decide) hg_ac_int (by decide) (by decide) (by decide) (by decide) (fun _ => rfl) (fun _ => rfl) (by decide) (by decide) ?_
  refine hg_putR d_M_init_184 f_M_79 rfl rfl (Or.inr ⟨rfl, rfl, rfl⟩) (fun _ => rfl) (fun _ => rfl) (by decide +kernel) ?_
  refine hg_aload0 d_M_init_187 ?_
  refine hg_bipush (v := 20) d_M_init_188 (by decide) ?_
  refine hx_newa (m := 113) (k := 22) (i := 22) (N := 20) (by decide +kernel) d_M_init_190 rfl rfl (by decide) hg_ac_int (by decide) (by decide) (by decide) (by decide) (fun _ => rfl) (fun _ => rfl) (by decide) (by decide) ?_
  refine hg_putR d_M_init_192 f_M_82 rfl rfl (Or.inr ⟨rfl, rfl, rfl⟩) (fun _ => rfl) (fun _ => rfl) (by decide +kernel) ?_
  refine hg_aload0 d_M_init_195 ?_
  refine hg_sipush (v := 128) d_M_init_196 (by decide) ?_
  refine hx_newa (m := 114) (k := 22) (i := 23) (N := 128) (by decide +kernel) d_M_init_199 rfl rfl (by decide) hg_ac_int (by decide) (by decide) (by decide) (by decide) (fun _ => rfl) (fun _ => rfl) (by decide) (by decide) ?_
  refine hg_putR d_M_init_201 f_M_85 rfl rfl (Or.inr ⟨rfl, rfl, rfl⟩) (fun _ => rfl) (fun _ => rfl) (by decide +kernel) ?_
  refine hg_aload0 d_M_init_204 ?_
  refine hg_sipush (v := 128) d_M_init_205 (by decide) ?_
  refine hx_newa (m := 115) (k := 22) (i := 24) (N := 128) (by decide +kernel) d_M_init_208 rfl rfl (by decide) hg_ac_int (by decide) (by decide) (by decide) (by decide) (fun _ => rfl) (fun _ => rfl) (by decide) (by decide) ?_
  refine hg_putR d_M_init_210 f_M_88 rfl rfl (Or.inr ⟨rfl, rfl, rfl⟩) (fun _ => rfl) (fun _ => rfl) (by decide +kernel) ?_
  refine hg_aload0 d_M_init_213 ?_
  refine hg_sipush (v := 384) d_M_init_214 (by decide) ?_
  refine hx_newa (m := 116) (k := 22) (i := 25) (N := 384) (by decide +kernel) d_M_init_217 rfl rfl (by decide) hg_ac_int (by decide) (by decide) (by decide) (by decide) (fun _ => rfl) (fun _ => rfl) (by decide) (by decide) ?_
  refine hg_putR d_M_init_219 f_M_91 rfl rfl (Or.inr ⟨rfl, rfl, rfl⟩) (fun _ => rfl) (fun _ => rfl) (by decide +kernel) ?_
  refine hg_aload0 d_M_init_222 ?_
  refine hg_bipush (v := 6) d_M_init_223 (by decide) ?_
  refine hx_newa (m := 117) (k := 22) (i := 26) (N := 6) (by decide +kernel) d_M_init_225 rfl rfl (by decide) hg_ac_int (by decide) (by decide) (by decide) (by decide) (fun _ => rfl) (fun _ => rfl) (by decide) (by decide) ?_
  refine hg_putR d_M_init_227 f_M_94 rfl rfl (Or.inr ⟨rfl, rfl, rfl⟩) (fun _ => rfl) (fun _ => rfl) (by decide +kernel) ?_
  refine hg_aload0 d_M_init_230 ?_
  refine hg_bipush (v := 6) d_M_init_231 (by decide) ?_
  refine hx_newa (m := 118) (k := 22) (i := 27) (N := 6) (by decide +kernel) d_M_init_233 rfl rfl (by decide) hg_ac_int (by decide) (by decide) (by decide) (by decide) (fun _ => rfl) (fun _ => rfl) (by decide) (by decide) ?_
  refine hg_putR d_M_init_235 f_M_97 rfl rfl (Or.inr ⟨rfl, rfl, rfl⟩) (fun _ => rfl) (fun _ => rfl) (by decide +kernel) ?_
  refine hg_aload0 d_M_init_238 ?_
  refine hg_sipush (v := 360) d_M_init_239 (by decide) ?_
  refine hx_newa (m := 119) (k := 23) (i := 0) (N := 360) (by decide +kernel) d_M_init_242 rfl rfl (by decide) hg_ac_long (by decide) (by decide) (by decide) (by decide) (fun _ => rfl) (fun _ => rfl) (by decide) (by decide) ?_
  refine hg_putR d_M_init_244 f_M_100 rfl rfl (Or.inr ⟨rfl, rfl, rfl⟩) (fun _ => rfl) (fun _ => rfl) (by decide +kernel) ?_
  refine hg_aload0 d_M_init_247 ?_
  refine hg_iconst (v := (-1)) d_M_init_248 (by decide) ?_
  refine hg_putI d_M_init_249 f_M_104 rfl rfl (Or.inl rfl) rfl rfl (by decide +kernel) ?_
  refine hg_iconst (v := 0) d_M_init_252 (by decide) ?_
  refine hg_istore1 d_M_init_253 rfl ?_
  refine hg_iload1 d_M_init_254 ?_
  refine hg_bipush (v := 6) d_M_init_255 (by decide) ?_
  refine hg_icmp_ge (tgt := 273) d_M_init_257 (by decide) (fun h_1 => absurd h_1 (by decide)) (fun h_1 => ?_)
  refine hg_aload0 d_M_init_260 ?_
  refine hg_getR d_M_init_261 f_M_94 rfl rfl (by decide +kernel) rfl ?_
  refine hg_iload1 d_M_init_264 ?_
  refine hg_iconst (v := (-1)) d_M_init_265 (by decide) ?_
  refine hg_iast_n (j := 0) d_M_init_266 rfl rfl (by decide +kernel) (by decide +kernel) ?_
  refine hg_iinc1 (v := 1) d_M_init_267 rfl (by decide) ?_
  refine hg_goto (tgt := 254) d_M_init_270 (by decide) ?_
  refine hg_iload1 d_M_init_254 ?_
  refine hg_bipush (v := 6) d_M_init_255 (by decide) ?_
  refine hg_icmp_ge (tgt := 273) d_M_init_257 (by decide) (fun h_2 => absurd h_2 (by decide)) (fun h_2 => ?_)
  refine hg_aload0 d_M_init_260 ?_
  refine hg_getR d_M_init_261 f_M_94 rfl rfl (by decide +kernel) rfl ?_
  refine hg_iload1 d_M_init_264 ?_
  refine hg_iconst (v := (-1)) d_M_init_265 (by decide) ?_
  refine hg_iast_n (j := 1) d_M_init_266 rfl rfl (by decide +kernel) (by decide +kernel) ?_
  refine hg_iinc1 (v := 2) d_M_init_267 rfl (by decide) ?_
  refine hg_goto (tgt := 254) d_M_init_270 (by decide) ?_
  refine hg_iload1 d_M_init_254 ?_
  refine hg_bipush (v := 6) d_M_init_255 (by decide) ?_
  refine hg_icmp_ge (tgt := 273) d_M_init_257 (by decide) (fun h_3 => absurd h_3 (by decide)) (fun h_3 => ?_)
  refine hg_aload0 d_M_init_260 ?_
  refine hg_getR d_M_init_261 f_M_94 rfl rfl (by decide +kernel) rfl ?_
  refine hg_iload1 d_M_init_264 ?_
  refine hg_iconst (v := (-1)) d_M_init_265 (by decide) ?_
  refine hg_iast_n (j := 2) d_M_init_266 rfl rfl (by decide +kernel) (by decide +kernel) ?_
  refine hg_iinc1 (v := 3) d_M_init_267 rfl (by decide) ?_
  refine hg_goto (tgt := 254) d_M_init_270 (by decide) ?_
  refine hg_iload1 d_M_init_254 ?_
  refine hg_bipush (v := 6) d_M_init_255 (by decide) ?_
  refine hg_icmp_ge (tgt := 273) d_M_init_257 (by decide) (fun h_4 => absurd h_4 (by decide)) (fun h_4 => ?_)
  refine hg_aload0 d_M_init_260 ?_
  refine hg_getR d_M_init_261 f_M_94 rfl rfl (by decide +kernel) rfl ?_
  refine hg_iload1 d_M_init_264 ?_
  refine hg_iconst (v := (-1)) d_M_init_265 (by decide) ?_
  refine hg_iast_n (j := 3) d_M_init_266 rfl rfl (by decide +kernel) (by decide +kernel) ?_
  refine hg_iinc1 (v := 4) d_M_init_267 rfl (by decide) ?_
  refine hg_goto (tgt := 254) d_M_init_270 (by decide) ?_
  refine hg_iload1 d_M_init_254 ?_
  refine hg_bipush (v := 6) d_M_init_255 (by decide) ?_
  refine hg_icmp_ge (tgt := 273) d_M_init_257 (by decide) (fun h_5 => absurd h_5 (by decide)) (fun h_5 => ?_)
  refine hg_aload0 d_M_init_260 ?_
  refine hg_getR d_M_init_261 f_M_94 rfl rfl (by decide +kernel) rfl ?_
  refine hg_iload1 d_M_init_264 ?_
  refine hg_iconst (v := (-1)) d_M_init_265 (by decide) ?_
  refine hg_iast_n (j := 4) d_M_init_266 rfl rfl (by decide +kernel) (by decide +kernel) ?_
  refine hg_iinc1 (v := 5) d_M_init_267 rfl (by decide) ?_
  refine hg_goto (tgt := 254) d_M_init_270 (by decide) ?_
  refine hg_iload1 d_M_init_254 ?_
  refine hg_bipush (v := 6) d_M_init_255 (by decide) ?_
  refine hg_icmp_ge (tgt := 273) d_M_init_257 (by decide) (fun h_6 => absurd h_6 (by decide)) (fun h_6 => ?_)
  refine hg_aload0 d_M_init_260 ?_
  refine hg_getR d_M_init_261 f_M_94 rfl rfl (by decide +kernel) rfl ?_
  refine hg_iload1 d_M_init_264 ?_
  refine hg_iconst (v := (-1)) d_M_init_265 (by decide) ?_
  refine hg_iast_n (j := 5) d_M_init_266 rfl rfl (by decide +kernel) (by decide +kernel) ?_
  refine hg_iinc1 (v := 6) d_M_init_267 rfl (by decide) ?_
  refine hg_goto (tgt := 254) d_M_init_270 (by decide) ?_
  refine hg_iload1 d_M_init_254 ?_
  refine hg_bipush (v := 6) d_M_init_255 (by decide) ?_
  refine hg_icmp_ge (tgt := 273) d_M_init_257 (by decide) (fun h_7 => ?_) (fun h_7 => absurd (by decide) h_7)
  refine hg_return d_M_init_273 rfl ?_
  rfl
def hI2 : Nat → Nat → Nat → Int32 := (hg_u3 (hg_u3 (hg_u3 (hg_u3 (hg_u3 (hg_u3 (hg_u3 hI1 21 0 21 (-1)) 22 26 0 (-1)) 22 26 1 (-1)) 22 26 2 (-1)) 22 26 3 (-1)) 22 26 4 (-1)) 22 26 5 (-1))
def hRf2 : Nat → Nat → Nat → Option (Nat × Nat) := (hg_u3 (hg_u3 (hg_u3 (hg_u3 (hg_u3 (hg_u3 (hg_u3 (hg_u3 (hg_u3 (hg_u3 (hg_u3 (hg_u3 (hg_u3 (hg_u3 (hg_u3 (hg_u3 (hg_u3 (hg_u3 (hg_u3 (hg_u3 (hg_u3 (hg_u3 (hg_u3 (hg_u3 (hg_u3 (hg_u3 (hg_u3 (hg_u3 (hg_u3 (hg_u3 hRf1 21 0 1 (some (22, 0))) 21 0 2 (some (22, 1))) 21 0 3 (some (22, 2))) 21 0 4 (some (22, 3))) 21 0 5 (some (22, 4))) 21 0 6 (some (22, 5))) 21 0 7 (some (22, 6))) 21 0 8 (some (22, 7))) 21 0 9 (some (22, 8))) 21 0 15 (some (22, 9))) 21 0 22 (some (22, 10))) 21 0 23 (some (22, 11))) 21 0 24 (some (22, 12))) 21 0 25 (some (22, 13))) 21 0 26 (some (22, 14))) 21 0 27 (some (22, 15))) 21 0 29 (some (24, 0))) 21 0 31 (some (22, 16))) 21 0 32 (some (22, 17))) 21 0 34 (some (22, 18))) 21 0 35 (some (22, 19))) 21 0 37 (some (22, 20))) 21 0 38 (some (22, 21))) 21 0 40 (some (22, 22))) 21 0 42 (some (22, 23))) 21 0 43 (some (22, 24))) 21 0 44 (some (22, 25))) 21 0 45 (some (22, 26))) 21 0 46 (some (22, 27))) 21 0 47 (some (23, 0)))
end M53
