/-! the model: feign -/
section M41
variable {l : Launch} {E : hg_E} {d T : Nat}
variable {I : Nat → Nat → Nat → Int32} {Lg : Nat → Nat → Nat → Int64} {Rf : Nat → Nat → Nat → Option (Nat × Nat)} {X : Nat × (Nat → Nat) × (Nat → Nat → Nat)}
variable {I' I1 : Nat → Nat → Nat → Int32} {Lg' : Nat → Nat → Nat → Int64} {σ τ : hs_S} {tw : hs_W} {a0 a2 a4 : hs_L} {G : hs_G}
theorem fg_pow : ∀ p, p < 7 → ((1 : Int32) <<< (nI p &&& 31)) = nI (2 ^ p) := by decide +kernel
theorem hs_dn_0 {f : Nat → Bool} : ∀ N, hs_fst f N = if hs_cnt f N = 0 then -5 else hs_fst f N
  | 0 => rfl
  | N + 1 => by
    by_cases z : hs_cnt f (N + 1) = 0
    · rw [if_pos z]
      unfold hs_cnt at z
      split at z
      · omega
      · rename_i h
        show (if f N = true ∧ hs_cnt f N = 0 then nI N else hs_fst f N) = -5
        rw [if_neg (fun y => h y.1), hs_dn_0 N, if_pos z]
    · rw [if_neg z]
theorem hs_dn_t {f : Nat → Bool} {N t : Nat} {L : Int32} (h : hs_fst f N = if hs_cnt f (t + 1) = 0 then L else hs_fst f (t + 1)) (hf : f t = true) : hs_fst f N = if hs_cnt f t = 0 then nI t else hs_fst f t := by
  rw [h, if_neg (show ¬ hs_cnt f (t + 1) = 0 from fun z => by unfold hs_cnt at z; rw [if_pos hf] at z; omega)]
  show (if f t = true ∧ hs_cnt f t = 0 then nI t else hs_fst f t) = _
  by_cases z : hs_cnt f t = 0
  · rw [if_pos ⟨hf, z⟩, if_pos z]
  · rw [if_neg (fun y => z y.2), if_neg z]
theorem hs_dn_f {f : Nat → Bool} {N t : Nat} {L : Int32} (h : hs_fst f N = if hs_cnt f (t + 1) = 0 then L else hs_fst f (t + 1)) (hf : ¬ f t = true) : hs_fst f N = if hs_cnt f t = 0 then L else hs_fst f t := by
  rw [h, show hs_cnt f (t + 1) = hs_cnt f t from if_neg hf, show hs_fst f (t + 1) = hs_fst f t from if_neg (fun y => hf y.1)]
theorem hs_dn_e {f : Nat → Bool} {M : Nat} : ∀ k, (∀ s, M ≤ s → s < M + k → ¬ f s = true) → hs_cnt f (M + k) = hs_cnt f M ∧ hs_fst f (M + k) = hs_fst f M
  | 0, _ => ⟨rfl, rfl⟩
  | k + 1, h => by
    obtain ⟨h1, h2⟩ := hs_dn_e k (fun s a b => h s a (by omega))
    have hk := h (M + k) (by omega) (by omega)
    exact ⟨(if_neg hk).trans h1, (if_neg (fun y => hk y.1)).trans h2⟩
theorem hs_thu_f (tw : hs_W) (σ : hs_S) (h f : Nat) (f3 : f ≠ 3) (f4 : f ≠ 4) : hs_hv (hs_thu tw σ) h f = hs_hv σ h f := by
  unfold hs_thu
  split
  · rfl
  · rename_i i _
    have e0 : hs_hv (hs_din1 σ i) h f = hs_hv σ h f := by
      show hs_u2 (hs_ow σ i) _ 4 _ h f = _
      unfold hs_u2
      rw [if_neg (fun q => f4 q.2)]
      exact hs_ow_oth σ i h f f3
    show hs_hv (hs_din σ i) h f = _
    unfold hs_din hs_din3
    split
    · show hs_u2 (hs_hv (hs_din2 _ _)) _ 3 _ h f = _
      unfold hs_u2
      rw [if_neg (fun q => f3 q.2), hs_hv_din2, e0]
    · show hs_hv (hs_din2 _ _) h f = _
      rw [hs_hv_din2, e0]
theorem hs_th_f (tw : hs_W) (σ : hs_S) (h f : Nat) (f3 : f ≠ 3) (f4 : f ≠ 4) : ∀ k, hs_hv (hs_th tw σ k) h f = hs_hv σ h f
  | 0 => rfl
  | k + 1 => (hs_thu_f tw _ h f f3 f4).trans (hs_th_f tw σ h f f3 f4 k)
/-- the first k of the set open -/
def hs_zk (σ : hs_S) (s k : Nat) : hs_S := (σ.1, hs_st σ, (fun h f => if f = 6 ∧ h < k ∧ hs_bt s h = true then 0 else hs_hv σ h f), hs_rw σ, hs_tn σ)
theorem hs_zk_0 {s : Nat} : hs_zk σ s 0 = σ := by
  refine hs_hx rfl rfl (fun h f => ?_) rfl rfl
  exact if_neg (fun z => absurd z.2.1 (Nat.not_lt_zero _))
theorem hs_zk_s {s k : Nat} (h : hs_bt s k = true) : hs_shv (hs_zk σ s k) k 6 0 = hs_zk σ s (k + 1) := by
  refine hs_hx rfl rfl (fun h' f => ?_) rfl rfl
  show hs_u2 _ k 6 0 h' f = (if f = 6 ∧ h' < k + 1 ∧ hs_bt s h' = true then 0 else hs_hv σ h' f)
  unfold hs_u2
  by_cases e : h' = k ∧ f = 6
  · obtain ⟨rfl, rfl⟩ := e; rw [if_pos ⟨rfl, rfl⟩, if_pos ⟨rfl, Nat.lt_succ_self _, h⟩]
  · rw [if_neg e]
    show (if f = 6 ∧ h' < k ∧ hs_bt s h' = true then 0 else hs_hv σ h' f) = _
    by_cases g : f = 6 ∧ h' < k ∧ hs_bt s h' = true
    · rw [if_pos g, if_pos ⟨g.1, by omega, g.2.2⟩]
    · rw [if_neg g, if_neg (fun z => g ⟨z.1, by have : h' ≠ k := (fun q => e ⟨q, z.1⟩); omega, z.2.2⟩)]
theorem hs_zk_n {s k : Nat} (h : ¬ hs_bt s k = true) : hs_zk σ s k = hs_zk σ s (k + 1) := by
  refine hs_hx rfl rfl (fun h' f => ?_) rfl rfl
  show (if f = 6 ∧ h' < k ∧ hs_bt s h' = true then 0 else hs_hv σ h' f) = (if f = 6 ∧ h' < k + 1 ∧ hs_bt s h' = true then 0 else hs_hv σ h' f)
  by_cases g : f = 6 ∧ h' < k ∧ hs_bt s h' = true
  · rw [if_pos g, if_pos ⟨g.1, by omega, g.2.2⟩]
  · rw [if_neg g, if_neg (fun z => g ⟨z.1, by have : h' ≠ k := (fun q => h (by rw [← q]; exact z.2.2)); omega, z.2.2⟩)]
theorem hs_MS.hr {w2 : Nat → Nat → Int32} (h : hs_MS (hs_sw σ w2) I) (e : ∀ p f, p < hs_n σ → f < 7 → w2 p f = hs_hv σ p f) : hs_MS σ I := ⟨h.1, h.2.1, h.2.2.1, h.2.2.2.1, h.2.2.2.2.1, h.2.2.2.2.2.1, h.2.2.2.2.2.2.1, fun p f hp hf => (h.2.2.2.2.2.2.2.1 p f hp hf).trans (e p f hp hf), h.2.2.2.2.2.2.2.2⟩
theorem hs_sub_bt {s o p : Nat} (hp : p < 6) (h : hs_sub s o = true) (hb : hs_bt s p = true) : hs_bt o p = true := by
  unfold hs_sub at h
  rw [List.all_eq_true] at h
  have := h p (List.mem_range.mpr hp)
  rw [hb] at this; simpa using this
theorem m_M_openOnes_loop (hX : hg_XS T X) (hR : hg_SR T Rf) (hO : hs_ok T σ) (hM : hs_MS σ I) : ∀ (k p : Nat), p + k = hs_n σ → hg_WP l E (d) Y_M_openOnes 0 0 4 [some (.ref (hg_ad E 21 0)), some (.int (nI (hs_opn σ p))), some (.int (nI p))] [] (I, Lg, Rf, X) (hg_i (fun v M' => v = nI (hs_opn σ (hs_n σ)) ∧ M' = (I, Lg, Rf, X))) := by
  have hn6 := hO.1
  intro k
  induction k with
  | zero =>
    intro p hpk
    obtain rfl : p = hs_n σ := by omega
    refine hg_iload2 d_M_openOnes_4 ?_
    refine hg_aload0 d_M_openOnes_5 ?_
    refine hg_getI d_M_openOnes_6 f_M_108 rfl rfl (hX.lt (n := 1) ⟨by decide, by decide⟩ rfl (by omega)) ?_
    refine hg_eq1 (y := nI (hs_n σ)) (hM.1) ?_
    refine hg_icmp_ge (tgt := 33) d_M_openOnes_9 (by decide) (fun h_1 => ?_) (fun h_1 => absurd (Int32.le_refl _) h_1)
    refine hg_iload1 d_M_openOnes_33 ?_
    refine hg_ireturn d_M_openOnes_34 rfl rfl ?_
    exact ⟨rfl, rfl⟩
  | succ k ih =>
    intro p hpk
    refine hg_iload2 d_M_openOnes_4 ?_
    refine hg_aload0 d_M_openOnes_5 ?_
    refine hg_getI d_M_openOnes_6 f_M_108 rfl rfl (hX.lt (n := 1) ⟨by decide, by decide⟩ rfl (by omega)) ?_
    refine hg_eq1 (y := nI (hs_n σ)) (hM.1) ?_
    refine hg_icmp_ge (tgt := 33) d_M_openOnes_9 (by decide) (fun h_2 => absurd h_2 (nI_ge (by omega) (by omega))) (fun h_2 => ?_)
    refine hg_aload0 d_M_openOnes_12 ?_
    refine hg_getR d_M_openOnes_13 f_M_30 rfl rfl (hX.lt (n := 1) ⟨by decide, by decide⟩ rfl (by omega)) (hR.m (j := 7) (q := (22, 6)) rfl) ?_
    refine hg_iload2 d_M_openOnes_16 ?_
    refine hg_iald_n (j := p) d_M_openOnes_17 rfl rfl (hX.lt (n := 28) ⟨by decide, by decide⟩ rfl (by omega)) (hX.jn (n := 6) (by decide) rfl (by omega)) ?_
    refine hg_eq1 (y := hs_hv σ p 6) (hM.2.2.2.2.2.2.2.1 p 6 (by omega) (by decide)) ?_
    refine hg_if_ne (tgt := 27) d_M_openOnes_18 (by decide) (fun h6 => ?_) (fun h6 => ?_)
    · refine hg_iinc2 (v := nI (p + 1)) d_M_openOnes_27 rfl (nI_add _ _) ?_
      refine hg_goto (tgt := 4) d_M_openOnes_30 (by decide) ?_
      have := ih (p + 1) (by omega)
      rwa [show hs_opn σ (p + 1) = hs_opn σ p from if_neg h6] at this
    · replace h6 := Decidable.not_not.mp h6
      refine hg_iload1 d_M_openOnes_21 ?_
      refine hg_iconst (v := 1) d_M_openOnes_22 (by decide) ?_
      refine hg_iload2 d_M_openOnes_23 ?_
      refine hg_ishl d_M_openOnes_24 ?_
      refine hg_ior d_M_openOnes_25 ?_
      refine hg_eq1 (y := nI (hs_opn σ p + 2 ^ p)) (fg_or p (by omega) _ (hs_opn_lt σ p)) ?_
      refine hg_istore1 d_M_openOnes_26 rfl ?_
      refine hg_iinc2 (v := nI (p + 1)) d_M_openOnes_27 rfl (nI_add _ _) ?_
      refine hg_goto (tgt := 4) d_M_openOnes_30 (by decide) ?_
      have := ih (p + 1) (by omega)
      rwa [show hs_opn σ (p + 1) = hs_opn σ p + 2 ^ p from if_pos h6] at this
theorem m_M_openOnes (hX : hg_XS T X) (hR : hg_SR T Rf) (hO : hs_ok T σ) (hM : hs_MS σ I) : hg_MC l E (d + 1) Y_M_openOnes 0 0 [.ref (hg_ad E 21 0)] (I, Lg, Rf, X) (hg_i (fun v M' => v = nI (hs_opn σ (hs_n σ)) ∧ M' = (I, Lg, Rf, X))) := by
  refine hg_mc k_M_openOnes (Nat.le_of_ble_eq_true rfl) ?_
  show hg_WP l E _ Y_M_openOnes 0 0 0 [some (.ref (hg_ad E 21 0)), none, none] [] (I, Lg, Rf, X) _
  refine hg_iconst (v := 0) d_M_openOnes_0 (by decide) ?_
  refine hg_istore1 d_M_openOnes_1 rfl ?_
  refine hg_iconst (v := 0) d_M_openOnes_2 (by decide) ?_
  refine hg_istore2 d_M_openOnes_3 rfl ?_
  exact m_M_openOnes_loop hX hR hO hM _ 0 (Nat.zero_add _)

theorem m_M_fs_shut {s m i : Nat} {Q : Option Value → hg_M → Prop} (hX : hg_XS T X) (hR : hg_SR T Rf) (hO : hs_ok T σ) (hs64 : s < 64) (K : ∀ I2 : Nat → Nat → Nat → Int32, hs_MS (hs_shsk σ s (hs_n σ)) I2 → hm_t I2 I → hg_WP l E (d + 7) Y_M_feigns 0 0 54 [some (.ref (hg_ad E 21 0)), some (.int (nI s)), some (.int (nI m)), some (.int (nI i)), some (.int (nI (hs_n σ)))] [] (I2, Lg, Rf, X) (Q)) : ∀ (k p : Nat) (I1 : Nat → Nat → Nat → Int32), p + k = hs_n σ → hs_MS (hs_shsk σ s p) I1 → hm_t I1 I → hg_WP l E (d + 7) Y_M_feigns 0 0 22 [some (.ref (hg_ad E 21 0)), some (.int (nI s)), some (.int (nI m)), some (.int (nI i)), some (.int (nI p))] [] (I1, Lg, Rf, X) (Q) := by
  have hn6 := hO.1
  intro k
  induction k with
  | zero =>
    intro p I1 hpk hM ht
    obtain rfl : p = hs_n σ := by omega
    refine hg_iload4 d_M_feigns_22 ?_
    refine hg_aload0 d_M_feigns_24 ?_
    refine hg_getI d_M_feigns_25 f_M_108 rfl rfl (hX.lt (n := 1) ⟨by decide, by decide⟩ rfl (by omega)) ?_
    refine hg_eq1 (y := nI (hs_n σ)) (hM.1) ?_
    refine hg_icmp_ge (tgt := 54) d_M_feigns_28 (by decide) (fun h_1 => ?_) (fun h_1 => absurd (Int32.le_refl _) h_1)
    exact K I1 hM ht
  | succ k ih =>
    intro p I1 hpk hM ht
    refine hg_iload4 d_M_feigns_22 ?_
    refine hg_aload0 d_M_feigns_24 ?_
    refine hg_getI d_M_feigns_25 f_M_108 rfl rfl (hX.lt (n := 1) ⟨by decide, by decide⟩ rfl (by omega)) ?_
    refine hg_eq1 (y := nI (hs_n σ)) (hM.1) ?_
    refine hg_icmp_ge (tgt := 54) d_M_feigns_28 (by decide) (fun h_2 => absurd h_2 (nI_ge (by omega) (by omega))) (fun h_2 => ?_)
    refine hg_iload1 d_M_feigns_31 ?_
    refine hg_iload4 d_M_feigns_32 ?_
    refine hg_cSi d_M_feigns_34 l_M_239 rfl (Nat.le_of_ble_eq_true rfl) (m_M_has hs64 (show p < 6 by omega)) rfl ?_
    rintro _ _ ⟨⟨hb, rfl⟩ | ⟨hb, rfl⟩, rfl⟩
    · refine hg_if_eq (tgt := 48) d_M_feigns_37 (by decide) (fun h_3 => absurd h_3 (by decide)) (fun h_3 => ?_)
      refine hg_aload0 d_M_feigns_40 ?_
      refine hg_getR d_M_feigns_41 f_M_30 rfl rfl (hX.lt (n := 1) ⟨by decide, by decide⟩ rfl (by omega)) (hR.m (j := 7) (q := (22, 6)) rfl) ?_
      refine hg_iload4 d_M_feigns_44 ?_
      refine hg_iconst (v := 1) d_M_feigns_46 (by decide) ?_
      refine hg_iast_n (j := p) d_M_feigns_47 rfl rfl (hX.lt (n := 28) ⟨by decide, by decide⟩ rfl (by omega)) (hX.jn (n := 6) (by decide) rfl (by omega)) ?_
      refine hg_iinc4 (v := nI (p + 1)) d_M_feigns_48 rfl (nI_add _ _) ?_
      refine hg_goto (tgt := 22) d_M_feigns_51 (by decide) ?_
      exact ih (p + 1) _ (by omega) (by rw [← hs_shsk_s hb]; exact hM.shv (by decide)) (ht.u22 (by decide))
    · refine hg_if_eq (tgt := 48) d_M_feigns_37 (by decide) (fun h_4 => ?_) (fun h_4 => absurd (by decide) h_4)
      refine hg_iinc4 (v := nI (p + 1)) d_M_feigns_48 rfl (nI_add _ _) ?_
      refine hg_goto (tgt := 22) d_M_feigns_51 (by decide) ?_
      exact ih (p + 1) _ (by omega) (by rw [← hs_shsk_n (Bool.eq_false_iff.mpr hb)]; exact hM) ht
theorem m_M_fs_open {s m i : Nat} {Q : Option Value → hg_M → Prop} (hX : hg_XS T X) (hR : hg_SR T Rf) (hO : hs_ok T σ) (hs64 : s < 64) (K : ∀ I2 : Nat → Nat → Nat → Int32, hs_MS (hs_zk σ s (hs_n σ)) I2 → hm_t I2 I → hg_WP l E (d + 7) Y_M_feigns 0 0 93 [some (.ref (hg_ad E 21 0)), some (.int (nI s)), some (.int (nI m)), some (.int (nI i)), some (.int (nI (hs_n σ)))] [] (I2, Lg, Rf, X) (Q)) : ∀ (k p : Nat) (I1 : Nat → Nat → Nat → Int32), p + k = hs_n σ → hs_MS (hs_zk σ s p) I1 → hm_t I1 I → hg_WP l E (d + 7) Y_M_feigns 0 0 61 [some (.ref (hg_ad E 21 0)), some (.int (nI s)), some (.int (nI m)), some (.int (nI i)), some (.int (nI p))] [] (I1, Lg, Rf, X) (Q) := by
  have hn6 := hO.1
  intro k
  induction k with
  | zero =>
    intro p I1 hpk hM ht
    obtain rfl : p = hs_n σ := by omega
    refine hg_iload4 d_M_feigns_61 ?_
    refine hg_aload0 d_M_feigns_63 ?_
    refine hg_getI d_M_feigns_64 f_M_108 rfl rfl (hX.lt (n := 1) ⟨by decide, by decide⟩ rfl (by omega)) ?_
    refine hg_eq1 (y := nI (hs_n σ)) (hM.1) ?_
    refine hg_icmp_ge (tgt := 93) d_M_feigns_67 (by decide) (fun h_1 => ?_) (fun h_1 => absurd (Int32.le_refl _) h_1)
    exact K I1 hM ht
  | succ k ih =>
    intro p I1 hpk hM ht
    refine hg_iload4 d_M_feigns_61 ?_
    refine hg_aload0 d_M_feigns_63 ?_
    refine hg_getI d_M_feigns_64 f_M_108 rfl rfl (hX.lt (n := 1) ⟨by decide, by decide⟩ rfl (by omega)) ?_
    refine hg_eq1 (y := nI (hs_n σ)) (hM.1) ?_
    refine hg_icmp_ge (tgt := 93) d_M_feigns_67 (by decide) (fun h_2 => absurd h_2 (nI_ge (by omega) (by omega))) (fun h_2 => ?_)
    refine hg_iload1 d_M_feigns_70 ?_
    refine hg_iload4 d_M_feigns_71 ?_
    refine hg_cSi d_M_feigns_73 l_M_239 rfl (Nat.le_of_ble_eq_true rfl) (m_M_has hs64 (show p < 6 by omega)) rfl ?_
    rintro _ _ ⟨⟨hb, rfl⟩ | ⟨hb, rfl⟩, rfl⟩
    · refine hg_if_eq (tgt := 87) d_M_feigns_76 (by decide) (fun h_3 => absurd h_3 (by decide)) (fun h_3 => ?_)
      refine hg_aload0 d_M_feigns_79 ?_
      refine hg_getR d_M_feigns_80 f_M_30 rfl rfl (hX.lt (n := 1) ⟨by decide, by decide⟩ rfl (by omega)) (hR.m (j := 7) (q := (22, 6)) rfl) ?_
      refine hg_iload4 d_M_feigns_83 ?_
      refine hg_iconst (v := 0) d_M_feigns_85 (by decide) ?_
      refine hg_iast_n (j := p) d_M_feigns_86 rfl rfl (hX.lt (n := 28) ⟨by decide, by decide⟩ rfl (by omega)) (hX.jn (n := 6) (by decide) rfl (by omega)) ?_
      refine hg_iinc4 (v := nI (p + 1)) d_M_feigns_87 rfl (nI_add _ _) ?_
      refine hg_goto (tgt := 61) d_M_feigns_90 (by decide) ?_
      exact ih (p + 1) _ (by omega) (by rw [← hs_zk_s hb]; exact hM.shv (by decide)) (ht.u22 (by decide))
    · refine hg_if_eq (tgt := 87) d_M_feigns_76 (by decide) (fun h_4 => ?_) (fun h_4 => absurd (by decide) h_4)
      refine hg_iinc4 (v := nI (p + 1)) d_M_feigns_87 rfl (nI_add _ _) ?_
      refine hg_goto (tgt := 61) d_M_feigns_90 (by decide) ?_
      exact ih (p + 1) _ (by omega) (by rw [← hs_zk_n hb]; exact hM) ht
theorem m_M_fs_had {s m : Nat} {a4 : Option Value} {Q : Option Value → hg_M → Prop} (hX : hg_XS T X) (hR : hg_SR T Rf) (hO : hs_ok T σ) (hs64 : s < 64) (hM : hs_MS σ I) (K : ∀ I2 : Nat → Nat → Nat → Int32, (∀ h, h < hs_n σ → I2 22 25 (6 * s + h) = hs_hv σ h 4) → (∀ j, j < 6 * s ∨ 6 * s + hs_n σ ≤ j → I2 22 25 j = I 22 25 j) → hk_r 25 I2 I → hg_WP l E (d + 7) Y_M_feigns 0 0 132 [some (.ref (hg_ad E 21 0)), some (.int (nI s)), some (.int (nI m)), some (.int (nI (hs_n σ))), a4] [] (I2, Lg, Rf, X) (Q)) : ∀ (k p : Nat) (I1 : Nat → Nat → Nat → Int32), p + k = hs_n σ → (∀ h, h < p → I1 22 25 (6 * s + h) = hs_hv σ h 4) → (∀ j, j < 6 * s ∨ 6 * s + hs_n σ ≤ j → I1 22 25 j = I 22 25 j) → hk_r 25 I1 I → hg_WP l E (d + 7) Y_M_feigns 0 0 101 [some (.ref (hg_ad E 21 0)), some (.int (nI s)), some (.int (nI m)), some (.int (nI p)), a4] [] (I1, Lg, Rf, X) (Q) := by
  have hn6 := hO.1
  intro k
  induction k with
  | zero =>
    intro p I1 hpk hd ho hk
    obtain rfl : p = hs_n σ := by omega
    refine hg_iload3 d_M_feigns_101 ?_
    refine hg_aload0 d_M_feigns_102 ?_
    refine hg_getI d_M_feigns_103 f_M_108 rfl rfl (hX.lt (n := 1) ⟨by decide, by decide⟩ rfl (by omega)) ?_
    refine hg_eq1 (y := nI (hs_n σ)) ((congrFun (hk 21 0 (by omega)) 0).trans hM.1) ?_
    refine hg_icmp_ge (tgt := 132) d_M_feigns_106 (by decide) (fun h_1 => ?_) (fun h_1 => absurd (Int32.le_refl _) h_1)
    exact K I1 hd ho hk
  | succ k ih =>
    intro p I1 hpk hd ho hk
    refine hg_iload3 d_M_feigns_101 ?_
    refine hg_aload0 d_M_feigns_102 ?_
    refine hg_getI d_M_feigns_103 f_M_108 rfl rfl (hX.lt (n := 1) ⟨by decide, by decide⟩ rfl (by omega)) ?_
    refine hg_eq1 (y := nI (hs_n σ)) ((congrFun (hk 21 0 (by omega)) 0).trans hM.1) ?_
    refine hg_icmp_ge (tgt := 132) d_M_feigns_106 (by decide) (fun h_2 => absurd h_2 (nI_ge (by omega) (by omega))) (fun h_2 => ?_)
    refine hg_aload0 d_M_feigns_109 ?_
    refine hg_getR d_M_feigns_110 f_M_91 rfl rfl (hX.lt (n := 1) ⟨by decide, by decide⟩ rfl (by omega)) (hR.m (j := 44) (q := (22, 25)) rfl) ?_
    refine hg_bipush (v := 6) d_M_feigns_113 (by decide) ?_
    refine hg_iload1 d_M_feigns_115 ?_
    refine hg_imul d_M_feigns_116 ?_
    refine hg_eq1 (y := nI (6 * s)) (pk_mul _ _) ?_
    refine hg_iload3 d_M_feigns_117 ?_
    refine hg_iadd d_M_feigns_118 ?_
    refine hg_eq1 (y := nI ((6 * s) + p)) (nI_add _ _) ?_
    refine hg_aload0 d_M_feigns_119 ?_
    refine hg_getR d_M_feigns_120 f_M_24 rfl rfl (hX.lt (n := 1) ⟨by decide, by decide⟩ rfl (by omega)) (hR.m (j := 5) (q := (22, 4)) rfl) ?_
    refine hg_iload3 d_M_feigns_123 ?_
    refine hg_iald_n (j := p) d_M_feigns_124 rfl rfl (hX.lt (n := 28) ⟨by decide, by decide⟩ rfl (by omega)) (hX.jn (n := 6) (by decide) rfl (by omega)) ?_
    refine hg_eq1 (y := hs_hv σ p 4) ((congrFun (hk 22 4 (by omega)) p).trans (hM.2.2.2.2.2.2.2.1 p 4 (by omega) (by decide))) ?_
    refine hg_iast_n (j := ((6 * s) + p)) d_M_feigns_125 rfl rfl (hX.lt (n := 28) ⟨by decide, by decide⟩ rfl (by omega)) (hX.jn (n := 384) (by decide) rfl (by omega)) ?_
    refine hg_iinc3 (v := nI (p + 1)) d_M_feigns_126 rfl (nI_add _ _) ?_
    refine hg_goto (tgt := 101) d_M_feigns_129 (by decide) ?_
    refine ih (p + 1) _ (by omega) (fun h hh => ?_) (fun j hj => ?_) hk.u
    · rw [hg_u3r]; by_cases z : h = p
      · rw [if_pos (by omega), z]
      · rw [if_neg (by omega)]; exact hd h (by omega)
    · rw [hg_u3r, if_neg (by omega)]; exact ho j hj
theorem m_M_fs_go {s m : Nat} {Q : Option Value → hg_M → Prop} (hX : hg_XS T X) (hR : hg_SR T Rf) (hO : hs_ok T σ) (hw : hs_wk σ ≤ 10009) (hT : hs_MT T tw I) (hm : m ≤ 6) (hs64 : s < 64) (hz : ∀ h, h < hs_n σ → hs_bt s h = true → hs_hv σ h 6 = 0) (K : ∀ (a4 : Option Value) (I2 : Nat → Nat → Nat → Int32), hs_MS (hs_th tw σ (m - 1)) I2 → hm_t I2 I → hg_WP l E (d + 7) Y_M_feigns 0 0 99 [some (.ref (hg_ad E 21 0)), some (.int (nI s)), some (.int (nI m)), some (.int (nI m)), a4] [] (I2, Lg, Rf, X) (Q)) : ∀ (k i : Nat) (a4 : Option Value) (I1 : Nat → Nat → Nat → Int32), i + k = m → 0 < i → hs_MS (hs_th tw σ (i - 1)) I1 → hm_t I1 I → hg_WP l E (d + 7) Y_M_feigns 0 0 10 [some (.ref (hg_ad E 21 0)), some (.int (nI s)), some (.int (nI m)), some (.int (nI i)), a4] [] (I1, Lg, Rf, X) (Q) := by
  have hn6 := hO.1
  intro k
  induction k with
  | zero =>
    intro i a4 I1 hik hi0 hM ht
    obtain rfl : i = m := by omega
    refine hg_iload3 d_M_feigns_10 ?_
    refine hg_iload2 d_M_feigns_11 ?_
    refine hg_icmp_ge (tgt := 99) d_M_feigns_12 (by decide) (fun h_1 => ?_) (fun h_1 => absurd (Int32.le_refl _) h_1)
    exact K _ I1 hM ht
  | succ k ih =>
    intro i a4 I1 hik hi0 hM ht
    obtain ⟨hO1, hw1, hn1, -⟩ := hs_th_all (tw := tw) hO (i - 1)
    obtain ⟨hO2, hw2, hn2, -⟩ := hs_th_all (tw := tw) hO i
    refine hg_iload3 d_M_feigns_10 ?_
    refine hg_iload2 d_M_feigns_11 ?_
    refine hg_icmp_ge (tgt := 99) d_M_feigns_12 (by decide) (fun h_2 => absurd h_2 (nI_ge (by omega) (by omega))) (fun h_2 => ?_)
    refine hg_iload3 d_M_feigns_15 ?_
    refine hg_if_ne (tgt := 54) d_M_feigns_16 (by decide) (fun h_3 => ?_) (fun h_3 => absurd (nI_ne0 hi0 (by omega)) h_3)
    refine hg_aload0 d_M_feigns_54 ?_
    refine hg_cVv d_M_feigns_55 l_M_257 rfl rfl (hX.lt (n := 1) ⟨by decide, by decide⟩ rfl (by omega)) rfl (Nat.le_of_ble_eq_true rfl) (m_M_goesThursday hX hR hM hO1 (hT.t ht) (by omega)) rfl ?_
    rintro _ ⟨I2, rfl, hM2, ht2⟩
    have eth : hs_th tw σ i = hs_thu tw (hs_th tw σ (i - 1)) := by (cases i with | zero => exact absurd hi0 (Nat.not_lt_zero _) | succ j => rfl)
    rw [← eth] at hM2
    refine hg_iconst (v := 0) d_M_feigns_58 (by decide) ?_
    refine hg_istore4 d_M_feigns_59 rfl ?_
    refine m_M_fs_open (σ := hs_th tw σ i) hX hR hO2 hs64 ?_ (hs_n (hs_th tw σ i)) 0 I2 (Nat.zero_add _) (by rw [hs_zk_0]; exact hM2) hm_t.rf
    intro I3 hM3 ht3
    have hM4 : hs_MS (hs_th tw σ i) I3 := hs_MS.hr (w2 := hs_hv (hs_zk (hs_th tw σ i) s (hs_n (hs_th tw σ i)))) hM3 (fun p f hp hf => by
      show (if f = 6 ∧ p < hs_n (hs_th tw σ i) ∧ hs_bt s p = true then 0 else hs_hv (hs_th tw σ i) p f) = _
      by_cases z : f = 6 ∧ p < hs_n (hs_th tw σ i) ∧ hs_bt s p = true
      · rw [if_pos z, z.1, hs_th_f tw σ p 6 (by decide) (by decide) i, hz p (by omega) z.2.2]
      · rw [if_neg z])
    refine hg_iinc3 (v := nI (i + 1)) d_M_feigns_93 rfl (nI_add _ _) ?_
    refine hg_goto (tgt := 10) d_M_feigns_96 (by decide) ?_
    exact ih (i + 1) _ I3 (by omega) (by omega) hM4 (ht3.tr (ht2.tr ht))
theorem m_M_feigns {s m : Nat} (hX : hg_XS T X) (hR : hg_SR T Rf) (hO : hs_ok T σ) (hw : hs_wk σ ≤ 9999) (hT : hs_MT T tw I) (hb : hs_Lb σ a0 a2 a4) (hs64 : s < 64) (hsub : hs_sub s (hs_opn σ (hs_n σ)) = true) (hm0 : 0 < m) (hm : m ≤ 6) (hM : hs_MG σ a0 a2 a4 I) : hg_MC l E (d + 8) Y_M_feigns 0 0 [.ref (hg_ad E 21 0), .int (nI s), .int (nI m)] (I, Lg, Rf, X) (hg_v (fun M' => ∃ I' : Nat → Nat → Nat → Int32, M' = (I', Lg, Rf, X) ∧ hs_MG σ a0 a2 a4 I' ∧ hm_s I' I ∧ (∀ h, h < hs_n σ → I' 22 25 (6 * s + h) = hs_hv (sp_fg tw σ m s) h 4) ∧ ∀ j, j < 6 * s ∨ 6 * s + hs_n σ ≤ j → I' 22 25 j = I 22 25 j)) := by
  have hn6 := hO.1
  refine hg_mc k_M_feigns (Nat.le_of_ble_eq_true rfl) ?_
  show hg_WP l E _ Y_M_feigns 0 0 0 [some (.ref (hg_ad E 21 0)), some (.int (nI s)), some (.int (nI m)), none, none] [] (I, Lg, Rf, X) _
  refine hg_aload0 d_M_feigns_0 ?_
  refine hg_aload0 d_M_feigns_1 ?_
  refine hg_getR d_M_feigns_2 f_M_88 rfl rfl (hX.lt (n := 1) ⟨by decide, by decide⟩ rfl (by omega)) (hR.m (j := 43) (q := (22, 24)) rfl) ?_
  refine hg_cVv d_M_feigns_5 l_M_263 rfl rfl (hX.lt (n := 1) ⟨by decide, by decide⟩ rfl (by omega)) rfl (Nat.le_of_ble_eq_true rfl) (m_M_keep24_ hX hR hM hb) rfl ?_
  rintro _ ⟨I1, rfl, hk, hi⟩
  have g1 := hM.r hk (by decide)
  have hT1 := hT.s (hk.s (Or.inl rfl))
  refine hg_iconst (v := 0) d_M_feigns_8 (by decide) ?_
  refine hg_istore3 d_M_feigns_9 rfl ?_
  refine hg_iload3 d_M_feigns_10 ?_
  refine hg_iload2 d_M_feigns_11 ?_
  refine hg_icmp_ge (tgt := 99) d_M_feigns_12 (by decide) (fun h_1 => absurd h_1 (nI_ge (a := 0) (b := m) hm0 (by omega))) (fun h_1 => ?_)
  refine hg_iload3 d_M_feigns_15 ?_
  refine hg_if_ne (tgt := 54) d_M_feigns_16 (by decide) (fun h_2 => absurd h_2 (by decide)) (fun h_2 => ?_)
  refine hg_iconst (v := 0) d_M_feigns_19 (by decide) ?_
  refine hg_istore4 d_M_feigns_20 rfl ?_
  refine m_M_fs_shut (i := 0) hX hR hO hs64 ?_ (hs_n σ) 0 I1 (Nat.zero_add _) (by rw [hs_shsk_0]; exact g1.1) hm_t.rf
  intro I2 hM2 ht2
  replace hM2 : hs_MS (hs_shs σ s) I2 := hM2
  have hO2 : hs_ok T (hs_shs σ s) := hO.shsk (k := hs_n σ)
  refine hg_aload0 d_M_feigns_54 ?_
  refine hg_cVv d_M_feigns_55 l_M_257 rfl rfl (hX.lt (n := 1) ⟨by decide, by decide⟩ rfl (by omega)) rfl (Nat.le_of_ble_eq_true rfl) (m_M_goesThursday hX hR hM2 hO2 (hT1.t ht2) (by show hs_wk σ ≤ 99999; omega)) rfl ?_
  rintro _ ⟨I3, rfl, hM3, ht3⟩
  refine hg_iconst (v := 0) d_M_feigns_58 (by decide) ?_
  refine hg_istore4 d_M_feigns_59 rfl ?_
  have hn3 : hs_n (hs_thu tw (hs_shs σ s)) = hs_n σ := (hs_thu_all tw _).1
  have hO3 : hs_ok T (hs_thu tw (hs_shs σ s)) := hO2.thu
  refine m_M_fs_open (i := 0) (σ := (hs_thu tw (hs_shs σ s))) hX hR hO3 hs64 ?_ (hs_n (hs_thu tw (hs_shs σ s))) 0 I3 (Nat.zero_add _) (by rw [hs_zk_0]; exact hM3) hm_t.rf
  intro I4 hM4 ht4
  have hz : ∀ h, h < hs_n σ → hs_bt s h = true → hs_hv σ h 6 = 0 := fun h hh hbt => (hs_opn_bt σ (hs_n σ) hn6 h hh).mp (hs_sub_bt (by omega) hsub hbt)
  have hM5 : hs_MS (hs_shb σ (hs_thu tw (hs_shs σ s))) I4 := hs_MS.hr (w2 := hs_hv (hs_zk (hs_thu tw (hs_shs σ s)) s (hs_n (hs_thu tw (hs_shs σ s))))) hM4 (fun p f hp hf => by
    show (if f = 6 ∧ p < hs_n (hs_thu tw (hs_shs σ s)) ∧ hs_bt s p = true then 0 else hs_hv (hs_thu tw (hs_shs σ s)) p f) = (if f = 6 ∧ p < hs_n (hs_thu tw (hs_shs σ s)) then hs_hv σ p 6 else hs_hv (hs_thu tw (hs_shs σ s)) p f)
    have hp2 : p < hs_n σ := by rw [← hn3]; exact hp
    by_cases z : f = 6
    · rw [z, if_pos (show 6 = 6 ∧ p < hs_n (hs_thu tw (hs_shs σ s)) from ⟨rfl, by rw [hn3]; exact hp2⟩)]
      by_cases y : hs_bt s p = true
      · rw [if_pos ⟨rfl, by rw [hn3]; exact hp2, y⟩, hz p hp2 y]
      · rw [if_neg (fun u => y u.2.2), hs_thu_f tw _ p 6 (by decide) (by decide)]; exact if_neg (fun u => y u.2.2)
    · rw [if_neg (fun u => z u.1), if_neg (fun u => z u.1)])
  have hnS : hs_n (hs_shb σ (hs_thu tw (hs_shs σ s))) = hs_n σ := hn3
  have hOS : hs_ok T (hs_shb σ (hs_thu tw (hs_shs σ s))) := hO3.shbk hO (k := hs_n (hs_thu tw (hs_shs σ s))) (by omega)
  have hwS : hs_wk (hs_shb σ (hs_thu tw (hs_shs σ s))) ≤ 10009 := by show hs_wk (hs_thu tw (hs_shs σ s)) ≤ 10009; rw [(hs_thu_all tw _).2.2.1]; show hs_wk σ + 1 ≤ 10009; omega
  refine hg_iinc3 (v := 1) d_M_feigns_93 rfl (by decide) ?_
  refine hg_goto (tgt := 10) d_M_feigns_96 (by decide) ?_
  have ht14 := ht4.tr (ht3.tr ht2)
  refine m_M_fs_go (σ := (hs_shb σ (hs_thu tw (hs_shs σ s)))) (s := s) hX hR hOS hwS (hT1.t ht14) hm hs64 ?_ ?_ (m - 1) 1 _ I4 (by omega) (by decide) hM5 hm_t.rf
  · intro h hh hbt
    exact (if_pos (show 6 = 6 ∧ h < hs_n (hs_thu tw (hs_shs σ s)) from ⟨rfl, hh⟩)).trans (hz h (by omega) hbt)
  · intro b4 I5 hM6 ht5
    obtain ⟨hO6, -, hn6b, -⟩ := hs_th_all (tw := tw) hOS (m - 1)
    replace hM6 : hs_MS (sp_fg tw σ m s) I5 := hM6
    have hn7 : hs_n (sp_fg tw σ m s) = hs_n σ := hn6b.trans hnS
    refine hg_iconst (v := 0) d_M_feigns_99 (by decide) ?_
    refine hg_istore3 d_M_feigns_100 rfl ?_
    refine m_M_fs_had (σ := (sp_fg tw σ m s)) hX hR hO6 hs64 hM6 ?_ (hs_n (sp_fg tw σ m s)) 0 I5 (Nat.zero_add _) (fun h hh => absurd hh (Nat.not_lt_zero _)) (fun _ _ => rfl) hk_r.rf
    intro I6 hd ho hk6
    have hs6 := (hk6.s (Or.inr rfl)).tr ((ht5.tr ht14).s.tr (hk.s (Or.inl rfl)))
    have hi6 : hs_MI σ a0 a2 a4 (I6 22 24) := by rw [hk6 22 24 (by decide), (ht5.tr ht14).2.2 24 (by decide)]; exact hi
    refine hg_aload0 d_M_feigns_132 ?_
    refine hg_aload0 d_M_feigns_133 ?_
    refine hg_getR d_M_feigns_134 f_M_88 rfl rfl (hX.lt (n := 1) ⟨by decide, by decide⟩ rfl (by omega)) (hR.m (j := 43) (q := (22, 24)) rfl) ?_
    refine hg_cVv d_M_feigns_137 l_M_267 rfl rfl (hX.lt (n := 1) ⟨by decide, by decide⟩ rfl (by omega)) rfl (Nat.le_of_ble_eq_true rfl) (m_M_again24_ hX hR hi6 hb) rfl ?_
    rintro _ ⟨I7, rfl, g7, hk7⟩
    refine hg_return d_M_feigns_140 rfl ?_
    exact ⟨I7, rfl, g7, hk7.s.tr hs6, fun h hh => by rw [hk7.2.2 25 (by decide)]; exact hd h (by omega), fun j hj => by rw [hk7.2.2 25 (by decide), ho j (by omega), (ht5.tr ht14).2.2 25 (by decide), hk 22 25 (by decide)]⟩

end M41
