/-! the model: house, set, shut, swap, row, feed -/
section M34
variable {l : Launch} {E : hg_E} {d : Nat}
variable {I : Nat → Nat → Nat → Int32} {Lg : Nat → Nat → Nat → Int64} {Rf : Nat → Nat → Nat → Option (Nat × Nat)} {X : Nat × (Nat → Nat) × (Nat → Nat → Nat)}
variable {G : hs_G}variable {I' I1 : Nat → Nat → Nat → Int32} {Lg' : Nat → Nat → Nat → Int64} {σ : hs_S}
theorem m_M_in0 {x : Int32} {b : Nat} (hb : b ≤ 10000) : hg_MC l E (d + 1) Y_M_within 0 0 [.int x, .int 0, .int (nI b)] (I, Lg, Rf, X) (hg_i (hg_bo (∃ j : Nat, j ≤ b ∧ x = nI j) (I, Lg, Rf, X))) := by
  have e : (0 ≤ x ∧ x ≤ nI b) ↔ ∃ j : Nat, j ≤ b ∧ x = nI j := by
    have h := hg_in0 (x := x) (n := b + 1) (by omega)
    rw [nI_pred b] at h
    exact h.trans ⟨fun ⟨j, h1, h2⟩ => ⟨j, by omega, h2⟩, fun ⟨j, h1, h2⟩ => ⟨j, by omega, h2⟩⟩
  refine m_M_within.imp ?_
  rintro _ _ ⟨v, rfl, h, rfl⟩
  exact ⟨v, rfl, h.imp (fun q => ⟨e.mp q.1, q.2⟩) (fun q => ⟨fun z => q.1 (e.mpr z), q.2⟩), rfl⟩
theorem hs_MS.add (h : hs_MS σ I) {k v b : Int32} (e0 : I' 21 0 0 = nI (hs_n σ + 1)) (e1 : ∀ j, j = 10 ∨ j = 11 ∨ j = 12 ∨ j = 13 ∨ j = 21 → I' 21 0 j = I 21 0 j) (e2 : ∀ j, j < hs_n σ → I' 22 8 j = I 22 8 j) (e3 : I' 22 8 (hs_n σ) = nI (hs_n σ)) (e4 : ∀ f p, f < 7 → p < hs_n σ → I' 22 f p = I 22 f p) (e5 : ∀ f, f < 7 → I' 22 f (hs_n σ) = hs_nh k v b f) (e6 : ∀ i, i < 4 * hs_n σ → I' 22 7 i = I 22 7 i) (e7 : ∀ j, j < 4 → I' 22 7 (4 * hs_n σ + j) = 0) : hs_MS (hs_add σ k v b) I' := by
  obtain ⟨h1, h2, h3, h4, h5, h6, h7, h8, h9⟩ := h
  have kn : hs_n (hs_add σ k v b) = hs_n σ + 1 := rfl
  refine ⟨e0, (e1 10 (by omega)).trans h2, (e1 11 (by omega)).trans h3, (e1 12 (by omega)).trans h4, (e1 13 (by omega)).trans h5, (e1 21 (by omega)).trans h6, fun j hj => ?_, fun p f hp hf => ?_, fun p j hp hj => ?_⟩
  · rw [kn] at hj
    show I' 22 8 j = nI (if j = hs_n σ then hs_n σ else hs_st σ j)
    by_cases q : j = hs_n σ
    · rw [if_pos q, q]; exact e3
    · rw [if_neg q]; exact (e2 j (by omega)).trans (h7 j (by omega))
  · rw [kn] at hp
    show I' 22 f p = if p = hs_n σ then hs_nh k v b f else hs_hv σ p f
    by_cases q : p = hs_n σ
    · rw [if_pos q, q]; exact e5 f hf
    · rw [if_neg q]; exact (e4 f p hf (by omega)).trans (h8 p f (by omega) hf)
  · rw [kn] at hp
    show I' 22 7 (4 * p + j) = if p = hs_n σ then 0 else hs_rw σ p j
    by_cases q : p = hs_n σ
    · rw [if_pos q, q]; exact e7 j hj
    · rw [if_neg q]; exact (e6 _ (by omega)).trans (h9 p j (by omega) hj)
theorem m_M_shut {x b : Int32} (hX : hg_XS (gT G) X) (hR : hg_SR (gT G) Rf) (hM0 : hs_MR G I Lg) (hG : hs_gok G) (hb01 : b = 0 ∨ b = 1) : hg_MC l E (d + 3) Y_M_shut 0 0 [.ref (hg_ad E 21 0), .int x, .int b] (I, Lg, Rf, X) (hg_i (fun v M' => hs_MP v (so_shut G x b).1 (so_shut G x b).2 I Lg Rf X M')) := by
  have hM := hM0.1.1
  have hO := hG.1
  have hn6 := hO.1
  have hT := hM0.2.2.2.2.2.2.2
  have hw := hG.2.1
  refine hg_mc k_M_shut (Nat.le_of_ble_eq_true rfl) ?_
  show hg_WP l E _ Y_M_shut 0 0 0 [some (.ref (hg_ad E 21 0)), some (.int x), some (.int b), none] [] (I, Lg, Rf, X) _
  refine hg_aload0 d_M_shut_0 ?_
  refine hg_iload1 d_M_shut_1 ?_
  refine hg_cVi d_M_shut_2 l_M_115 rfl rfl (hX.lt (n := 1) ⟨by decide, by decide⟩ rfl (by omega)) rfl (Nat.le_of_ble_eq_true rfl) (m_M_isOne hX hM.1 hn6) rfl ?_
  rintro _ _ ⟨⟨hha, rfl⟩ | ⟨hha, rfl⟩, rfl⟩
  · obtain ⟨h, hh, eh⟩ := hha
    have iha : hs_ix (hs_n (gN G)) x = some h := by rw [eh]; exact hs_ix_s hh (by omega)
    subst eh
    show hg_WP l E _ Y_M_shut 0 0 5 [some (.ref (hg_ad E 21 0)), some (.int (nI h)), some (.int b), none] [.int 1] (I, Lg, Rf, X) _
    refine hg_if_ne (tgt := 10) d_M_shut_5 (by decide) (fun h_1 => ?_) (fun h_1 => absurd (by decide) h_1)
    refine hg_aload0 d_M_shut_10 ?_
    refine hg_getR d_M_shut_11 f_M_30 rfl rfl (hX.lt (n := 1) ⟨by decide, by decide⟩ rfl (by omega)) (hR.m (j := 7) (q := (22, 6)) rfl) ?_
    refine hg_iload1 d_M_shut_14 ?_
    refine hg_iald_n (j := h) d_M_shut_15 rfl rfl (hX.lt (n := 28) ⟨by decide, by decide⟩ rfl (by omega)) (hX.jn (n := 6) (by decide) rfl (by omega)) ?_
    refine hg_eq1 (y := hs_hv (gN G) h 6) (hM.2.2.2.2.2.2.2.1 h 6 (by assumption) (by decide)) ?_
    refine hg_istore3 d_M_shut_16 rfl ?_
    refine hg_aload0 d_M_shut_17 ?_
    refine hg_getR d_M_shut_18 f_M_30 rfl rfl (hX.lt (n := 1) ⟨by decide, by decide⟩ rfl (by omega)) (hR.m (j := 7) (q := (22, 6)) rfl) ?_
    refine hg_iload1 d_M_shut_21 ?_
    refine hg_iload2 d_M_shut_22 ?_
    refine hg_if_eq (tgt := 30) d_M_shut_23 (by decide) (fun hbz => ?_) (fun hbz => ?_)
    · refine hg_iconst (v := 0) d_M_shut_30 (by decide) ?_
      refine hg_eq1 (y := b) (by rcases hb01 with z | z <;> subst z <;> first | rfl | exact absurd rfl hbz | exact absurd hbz (by decide)) ?_
      refine hg_iast_n (j := h) d_M_shut_31 rfl rfl (hX.lt (n := 28) ⟨by decide, by decide⟩ rfl (by omega)) (hX.jn (n := 6) (by decide) rfl (by omega)) ?_
      refine hg_iload3 d_M_shut_32 ?_
      refine hg_ireturn d_M_shut_33 rfl rfl ?_
      have hz : so_shut G (nI h) b = (hs_hv (gN G) h 6, gsN G (hs_shv (gN G) h 6 b)) := by simp [so_shut, iha]
      rw [hz]
      exact ⟨rfl, _, Lg, rfl, hM0.N (hM.shv (by decide)) (hm_n.rf.u22 (by decide)), (hm_n.rf.u22 (by decide)).s.lo, fun _ _ => rfl⟩
    · refine hg_iconst (v := 1) d_M_shut_26 (by decide) ?_
      refine hg_goto (tgt := 31) d_M_shut_27 (by decide) ?_
      refine hg_eq1 (y := b) (by rcases hb01 with z | z <;> subst z <;> first | rfl | exact absurd rfl hbz | exact absurd hbz (by decide)) ?_
      refine hg_iast_n (j := h) d_M_shut_31 rfl rfl (hX.lt (n := 28) ⟨by decide, by decide⟩ rfl (by omega)) (hX.jn (n := 6) (by decide) rfl (by omega)) ?_
      refine hg_iload3 d_M_shut_32 ?_
      refine hg_ireturn d_M_shut_33 rfl rfl ?_
      have hz : so_shut G (nI h) b = (hs_hv (gN G) h 6, gsN G (hs_shv (gN G) h 6 b)) := by simp [so_shut, iha]
      rw [hz]
      exact ⟨rfl, _, Lg, rfl, hM0.N (hM.shv (by decide)) (hm_n.rf.u22 (by decide)), (hm_n.rf.u22 (by decide)).s.lo, fun _ _ => rfl⟩
  · have iha : hs_ix (hs_n (gN G)) x = none := hs_ix_n hha
    refine hg_if_ne (tgt := 10) d_M_shut_5 (by decide) (fun h_2 => absurd h_2 (by decide)) (fun h_2 => ?_)
    refine hg_iconst (v := (-1)) d_M_shut_8 (by decide) ?_
    refine hg_ireturn d_M_shut_9 rfl rfl ?_
    have hz : so_shut G x b = (-1, G) := by simp [so_shut, iha]
    rw [hz]
    exact ⟨rfl, I, Lg, rfl, hM0, fun _ _ => rfl, fun _ _ => rfl⟩

theorem m_M_set {x y n : Int32} (hX : hg_XS (gT G) X) (hR : hg_SR (gT G) Rf) (hM0 : hs_MR G I Lg) (hG : hs_gok G) : hg_MC l E (d + 3) Y_M_set 0 0 [.ref (hg_ad E 21 0), .int x, .int y, .int n] (I, Lg, Rf, X) (hg_i (fun v M' => hs_MP v (so_set G x y n).1 (so_set G x y n).2 I Lg Rf X M')) := by
  have hM := hM0.1.1
  have hO := hG.1
  have hn6 := hO.1
  have hT := hM0.2.2.2.2.2.2.2
  have hw := hG.2.1
  refine hg_mc k_M_set (Nat.le_of_ble_eq_true rfl) ?_
  show hg_WP l E _ Y_M_set 0 0 0 [some (.ref (hg_ad E 21 0)), some (.int x), some (.int y), some (.int n), none] [] (I, Lg, Rf, X) _
  refine hg_aload0 d_M_set_0 ?_
  refine hg_iload1 d_M_set_1 ?_
  refine hg_cVi d_M_set_2 l_M_115 rfl rfl (hX.lt (n := 1) ⟨by decide, by decide⟩ rfl (by omega)) rfl (Nat.le_of_ble_eq_true rfl) (m_M_isOne hX hM.1 hn6) rfl ?_
  rintro _ _ ⟨⟨hha, rfl⟩ | ⟨hha, rfl⟩, rfl⟩
  · obtain ⟨h, hh, eh⟩ := hha
    have iha : hs_ix (hs_n (gN G)) x = some h := by rw [eh]; exact hs_ix_s hh (by omega)
    subst eh
    show hg_WP l E _ Y_M_set 0 0 5 [some (.ref (hg_ad E 21 0)), some (.int (nI h)), some (.int y), some (.int n), none] [.int 1] (I, Lg, Rf, X) _
    refine hg_if_eq (tgt := 17) d_M_set_5 (by decide) (fun h_1 => absurd h_1 (by decide)) (fun h_1 => ?_)
    refine hg_iload2 d_M_set_8 ?_
    refine hg_iconst (v := 0) d_M_set_9 (by decide) ?_
    refine hg_iconst (v := 2) d_M_set_10 (by decide) ?_
    refine hg_cSi d_M_set_11 l_M_111 rfl (Nat.le_of_ble_eq_true rfl) (m_M_in0 (b := 2) (by decide)) rfl ?_
    rintro _ _ ⟨⟨hhb, rfl⟩ | ⟨hhb, rfl⟩, rfl⟩
    · obtain ⟨j, hj, ej⟩ := hhb
      have ihb : hs_ix 3 y = some j := by rw [ej]; exact hs_ix_s (by omega) (by decide)
      subst ej
      show hg_WP l E _ Y_M_set 0 0 14 [some (.ref (hg_ad E 21 0)), some (.int (nI h)), some (.int (nI j)), some (.int n), none] [.int 1] (I, Lg, Rf, X) _
      refine hg_if_ne (tgt := 19) d_M_set_14 (by decide) (fun h_2 => ?_) (fun h_2 => absurd (by decide) h_2)
      have h6_j : j = 0 ∨ j = 1 ∨ j = 2 := by omega
      rcases h6_j with rfl | rfl | rfl
      · show hg_WP l E _ Y_M_set 0 0 19 [some (.ref (hg_ad E 21 0)), some (.int (nI h)), some (.int 0), some (.int n), none] [] (I, Lg, Rf, X) _
        replace ihb : hs_ix 3 0 = some 0 := ihb
        refine hg_iload3 d_M_set_19 ?_
        refine hg_iconst (v := 0) d_M_set_20 (by decide) ?_
        refine hg_iload2 d_M_set_21 ?_
        refine hg_if_ne (tgt := 30) d_M_set_22 (by decide) (fun h_3 => absurd h_3 (by decide)) (fun h_3 => ?_)
        refine hg_bipush (v := 99) d_M_set_25 (by decide) ?_
        refine hg_goto (tgt := 43) d_M_set_27 (by decide) ?_
        refine hg_cSi d_M_set_43 l_M_111 rfl (Nat.le_of_ble_eq_true rfl) (m_M_in0 (b := 99) (by decide)) rfl ?_
        rintro _ _ ⟨⟨hhc, rfl⟩ | ⟨hhc, rfl⟩, rfl⟩
        · obtain ⟨k, hk, ek⟩ := hhc
          have ihc : hs_ix 100 n = some k := by rw [ek]; exact hs_ix_s (by omega) (by decide)
          subst ek
          show hg_WP l E _ Y_M_set 0 0 46 [some (.ref (hg_ad E 21 0)), some (.int (nI h)), some (.int 0), some (.int (nI k)), none] [.int 1] (I, Lg, Rf, X) _
          refine hg_if_ne (tgt := 52) d_M_set_46 (by decide) (fun h_4 => ?_) (fun h_4 => absurd (by decide) h_4)
          refine hg_iload2 d_M_set_52 ?_
          refine hg_if_ne (tgt := 65) d_M_set_53 (by decide) (fun h_5 => absurd h_5 (by decide)) (fun h_5 => ?_)
          refine hg_aload0 d_M_set_56 ?_
          refine hg_getR d_M_set_57 f_M_18 rfl rfl (hX.lt (n := 1) ⟨by decide, by decide⟩ rfl (by omega)) (hR.m (j := 3) (q := (22, 2)) rfl) ?_
          refine hg_iload1 d_M_set_60 ?_
          refine hg_iald_n (j := h) d_M_set_61 rfl rfl (hX.lt (n := 28) ⟨by decide, by decide⟩ rfl (by omega)) (hX.jn (n := 6) (by decide) rfl (by omega)) ?_
          refine hg_eq1 (y := hs_hv (gN G) h 2) (hM.2.2.2.2.2.2.2.1 h 2 (by assumption) (by decide)) ?_
          refine hg_goto (tgt := 85) d_M_set_62 (by decide) ?_
          refine hg_istore4 d_M_set_85 rfl ?_
          refine hg_iload2 d_M_set_87 ?_
          refine hg_if_ne (tgt := 101) d_M_set_88 (by decide) (fun h_6 => absurd h_6 (by decide)) (fun h_6 => ?_)
          refine hg_aload0 d_M_set_91 ?_
          refine hg_getR d_M_set_92 f_M_18 rfl rfl (hX.lt (n := 1) ⟨by decide, by decide⟩ rfl (by omega)) (hR.m (j := 3) (q := (22, 2)) rfl) ?_
          refine hg_iload1 d_M_set_95 ?_
          refine hg_iload3 d_M_set_96 ?_
          refine hg_iast_n (j := h) d_M_set_97 rfl rfl (hX.lt (n := 28) ⟨by decide, by decide⟩ rfl (by omega)) (hX.jn (n := 6) (by decide) rfl (by omega)) ?_
          refine hg_goto (tgt := 123) d_M_set_98 (by decide) ?_
          refine hg_iload4 d_M_set_123 ?_
          refine hg_ireturn d_M_set_125 rfl rfl ?_
          show hs_MP _ (so_set G (nI h) 0 (nI k)).1 (so_set G (nI h) 0 (nI k)).2 I Lg Rf X _
          have hz : so_set G (nI h) 0 (nI k) = (hs_hv (gN G) h 2, gsN G (hs_shv (gN G) h 2 (nI k))) := by simp [so_set, iha, ihb, ihc, hs_lim, hs_fld]
          rw [hz]
          exact ⟨rfl, _, Lg, rfl, hM0.N (hM.shv (by decide)) (hm_n.rf.u22 (by decide)), (hm_n.rf.u22 (by decide)).s.lo, fun _ _ => rfl⟩
        · have ihc : hs_ix 100 n = none := hs_ix_n2 hhc
          refine hg_if_ne (tgt := 52) d_M_set_46 (by decide) (fun h_7 => absurd h_7 (by decide)) (fun h_7 => ?_)
          refine hg_bipush (v := (-2)) d_M_set_49 (by decide) ?_
          refine hg_ireturn d_M_set_51 rfl rfl ?_
          show hs_MP _ (so_set G (nI h) 0 n).1 (so_set G (nI h) 0 n).2 I Lg Rf X _
          have hz : so_set G (nI h) 0 n = (-2, G) := by simp [so_set, iha, ihb, ihc, hs_lim]
          rw [hz]
          exact ⟨rfl, I, Lg, rfl, hM0, fun _ _ => rfl, fun _ _ => rfl⟩
      · show hg_WP l E _ Y_M_set 0 0 19 [some (.ref (hg_ad E 21 0)), some (.int (nI h)), some (.int 1), some (.int n), none] [] (I, Lg, Rf, X) _
        replace ihb : hs_ix 3 1 = some 1 := ihb
        refine hg_iload3 d_M_set_19 ?_
        refine hg_iconst (v := 0) d_M_set_20 (by decide) ?_
        refine hg_iload2 d_M_set_21 ?_
        refine hg_if_ne (tgt := 30) d_M_set_22 (by decide) (fun h_8 => ?_) (fun h_8 => absurd (by decide) h_8)
        refine hg_iload2 d_M_set_30 ?_
        refine hg_iconst (v := 1) d_M_set_31 (by decide) ?_
        refine hg_icmp_ne (tgt := 40) d_M_set_32 (by decide) (fun h_9 => absurd h_9 (by decide)) (fun h_9 => ?_)
        refine hg_bipush (v := 9) d_M_set_35 (by decide) ?_
        refine hg_goto (tgt := 43) d_M_set_37 (by decide) ?_
        refine hg_cSi d_M_set_43 l_M_111 rfl (Nat.le_of_ble_eq_true rfl) (m_M_in0 (b := 9) (by decide)) rfl ?_
        rintro _ _ ⟨⟨hhc, rfl⟩ | ⟨hhc, rfl⟩, rfl⟩
        · obtain ⟨k, hk, ek⟩ := hhc
          have ihc : hs_ix 10 n = some k := by rw [ek]; exact hs_ix_s (by omega) (by decide)
          subst ek
          show hg_WP l E _ Y_M_set 0 0 46 [some (.ref (hg_ad E 21 0)), some (.int (nI h)), some (.int 1), some (.int (nI k)), none] [.int 1] (I, Lg, Rf, X) _
          refine hg_if_ne (tgt := 52) d_M_set_46 (by decide) (fun h_10 => ?_) (fun h_10 => absurd (by decide) h_10)
          refine hg_iload2 d_M_set_52 ?_
          refine hg_if_ne (tgt := 65) d_M_set_53 (by decide) (fun h_11 => ?_) (fun h_11 => absurd (by decide) h_11)
          refine hg_iload2 d_M_set_65 ?_
          refine hg_iconst (v := 1) d_M_set_66 (by decide) ?_
          refine hg_icmp_ne (tgt := 79) d_M_set_67 (by decide) (fun h_12 => absurd h_12 (by decide)) (fun h_12 => ?_)
          refine hg_aload0 d_M_set_70 ?_
          refine hg_getR d_M_set_71 f_M_21 rfl rfl (hX.lt (n := 1) ⟨by decide, by decide⟩ rfl (by omega)) (hR.m (j := 4) (q := (22, 3)) rfl) ?_
          refine hg_iload1 d_M_set_74 ?_
          refine hg_iald_n (j := h) d_M_set_75 rfl rfl (hX.lt (n := 28) ⟨by decide, by decide⟩ rfl (by omega)) (hX.jn (n := 6) (by decide) rfl (by omega)) ?_
          refine hg_eq1 (y := hs_hv (gN G) h 3) (hM.2.2.2.2.2.2.2.1 h 3 (by assumption) (by decide)) ?_
          refine hg_goto (tgt := 85) d_M_set_76 (by decide) ?_
          refine hg_istore4 d_M_set_85 rfl ?_
          refine hg_iload2 d_M_set_87 ?_
          refine hg_if_ne (tgt := 101) d_M_set_88 (by decide) (fun h_13 => ?_) (fun h_13 => absurd (by decide) h_13)
          refine hg_iload2 d_M_set_101 ?_
          refine hg_iconst (v := 1) d_M_set_102 (by decide) ?_
          refine hg_icmp_ne (tgt := 116) d_M_set_103 (by decide) (fun h_14 => absurd h_14 (by decide)) (fun h_14 => ?_)
          refine hg_aload0 d_M_set_106 ?_
          refine hg_getR d_M_set_107 f_M_21 rfl rfl (hX.lt (n := 1) ⟨by decide, by decide⟩ rfl (by omega)) (hR.m (j := 4) (q := (22, 3)) rfl) ?_
          refine hg_iload1 d_M_set_110 ?_
          refine hg_iload3 d_M_set_111 ?_
          refine hg_iast_n (j := h) d_M_set_112 rfl rfl (hX.lt (n := 28) ⟨by decide, by decide⟩ rfl (by omega)) (hX.jn (n := 6) (by decide) rfl (by omega)) ?_
          refine hg_goto (tgt := 123) d_M_set_113 (by decide) ?_
          refine hg_iload4 d_M_set_123 ?_
          refine hg_ireturn d_M_set_125 rfl rfl ?_
          show hs_MP _ (so_set G (nI h) 1 (nI k)).1 (so_set G (nI h) 1 (nI k)).2 I Lg Rf X _
          have hz : so_set G (nI h) 1 (nI k) = (hs_hv (gN G) h 3, gsN G (hs_shv (gN G) h 3 (nI k))) := by simp [so_set, iha, ihb, ihc, hs_lim, hs_fld]
          rw [hz]
          exact ⟨rfl, _, Lg, rfl, hM0.N (hM.shv (by decide)) (hm_n.rf.u22 (by decide)), (hm_n.rf.u22 (by decide)).s.lo, fun _ _ => rfl⟩
        · have ihc : hs_ix 10 n = none := hs_ix_n2 hhc
          refine hg_if_ne (tgt := 52) d_M_set_46 (by decide) (fun h_15 => absurd h_15 (by decide)) (fun h_15 => ?_)
          refine hg_bipush (v := (-2)) d_M_set_49 (by decide) ?_
          refine hg_ireturn d_M_set_51 rfl rfl ?_
          show hs_MP _ (so_set G (nI h) 1 n).1 (so_set G (nI h) 1 n).2 I Lg Rf X _
          have hz : so_set G (nI h) 1 n = (-2, G) := by simp [so_set, iha, ihb, ihc, hs_lim]
          rw [hz]
          exact ⟨rfl, I, Lg, rfl, hM0, fun _ _ => rfl, fun _ _ => rfl⟩
      · show hg_WP l E _ Y_M_set 0 0 19 [some (.ref (hg_ad E 21 0)), some (.int (nI h)), some (.int 2), some (.int n), none] [] (I, Lg, Rf, X) _
        replace ihb : hs_ix 3 2 = some 2 := ihb
        refine hg_iload3 d_M_set_19 ?_
        refine hg_iconst (v := 0) d_M_set_20 (by decide) ?_
        refine hg_iload2 d_M_set_21 ?_
        refine hg_if_ne (tgt := 30) d_M_set_22 (by decide) (fun h_16 => ?_) (fun h_16 => absurd (by decide) h_16)
        refine hg_iload2 d_M_set_30 ?_
        refine hg_iconst (v := 1) d_M_set_31 (by decide) ?_
        refine hg_icmp_ne (tgt := 40) d_M_set_32 (by decide) (fun h_17 => ?_) (fun h_17 => absurd (by decide) h_17)
        refine hg_sipush (v := 255) d_M_set_40 (by decide) ?_
        refine hg_cSi d_M_set_43 l_M_111 rfl (Nat.le_of_ble_eq_true rfl) (m_M_in0 (b := 255) (by decide)) rfl ?_
        rintro _ _ ⟨⟨hhc, rfl⟩ | ⟨hhc, rfl⟩, rfl⟩
        · obtain ⟨k, hk, ek⟩ := hhc
          have ihc : hs_ix 256 n = some k := by rw [ek]; exact hs_ix_s (by omega) (by decide)
          subst ek
          show hg_WP l E _ Y_M_set 0 0 46 [some (.ref (hg_ad E 21 0)), some (.int (nI h)), some (.int 2), some (.int (nI k)), none] [.int 1] (I, Lg, Rf, X) _
          refine hg_if_ne (tgt := 52) d_M_set_46 (by decide) (fun h_18 => ?_) (fun h_18 => absurd (by decide) h_18)
          refine hg_iload2 d_M_set_52 ?_
          refine hg_if_ne (tgt := 65) d_M_set_53 (by decide) (fun h_19 => ?_) (fun h_19 => absurd (by decide) h_19)
          refine hg_iload2 d_M_set_65 ?_
          refine hg_iconst (v := 1) d_M_set_66 (by decide) ?_
          refine hg_icmp_ne (tgt := 79) d_M_set_67 (by decide) (fun h_20 => ?_) (fun h_20 => absurd (by decide) h_20)
          refine hg_aload0 d_M_set_79 ?_
          refine hg_getR d_M_set_80 f_M_27 rfl rfl (hX.lt (n := 1) ⟨by decide, by decide⟩ rfl (by omega)) (hR.m (j := 6) (q := (22, 5)) rfl) ?_
          refine hg_iload1 d_M_set_83 ?_
          refine hg_iald_n (j := h) d_M_set_84 rfl rfl (hX.lt (n := 28) ⟨by decide, by decide⟩ rfl (by omega)) (hX.jn (n := 6) (by decide) rfl (by omega)) ?_
          refine hg_eq1 (y := hs_hv (gN G) h 5) (hM.2.2.2.2.2.2.2.1 h 5 (by assumption) (by decide)) ?_
          refine hg_istore4 d_M_set_85 rfl ?_
          refine hg_iload2 d_M_set_87 ?_
          refine hg_if_ne (tgt := 101) d_M_set_88 (by decide) (fun h_21 => ?_) (fun h_21 => absurd (by decide) h_21)
          refine hg_iload2 d_M_set_101 ?_
          refine hg_iconst (v := 1) d_M_set_102 (by decide) ?_
          refine hg_icmp_ne (tgt := 116) d_M_set_103 (by decide) (fun h_22 => ?_) (fun h_22 => absurd (by decide) h_22)
          refine hg_aload0 d_M_set_116 ?_
          refine hg_getR d_M_set_117 f_M_27 rfl rfl (hX.lt (n := 1) ⟨by decide, by decide⟩ rfl (by omega)) (hR.m (j := 6) (q := (22, 5)) rfl) ?_
          refine hg_iload1 d_M_set_120 ?_
          refine hg_iload3 d_M_set_121 ?_
          refine hg_iast_n (j := h) d_M_set_122 rfl rfl (hX.lt (n := 28) ⟨by decide, by decide⟩ rfl (by omega)) (hX.jn (n := 6) (by decide) rfl (by omega)) ?_
          refine hg_iload4 d_M_set_123 ?_
          refine hg_ireturn d_M_set_125 rfl rfl ?_
          show hs_MP _ (so_set G (nI h) 2 (nI k)).1 (so_set G (nI h) 2 (nI k)).2 I Lg Rf X _
          have hz : so_set G (nI h) 2 (nI k) = (hs_hv (gN G) h 5, gsN G (hs_shv (gN G) h 5 (nI k))) := by simp [so_set, iha, ihb, ihc, hs_lim, hs_fld]
          rw [hz]
          exact ⟨rfl, _, Lg, rfl, hM0.N (hM.shv (by decide)) (hm_n.rf.u22 (by decide)), (hm_n.rf.u22 (by decide)).s.lo, fun _ _ => rfl⟩
        · have ihc : hs_ix 256 n = none := hs_ix_n2 hhc
          refine hg_if_ne (tgt := 52) d_M_set_46 (by decide) (fun h_23 => absurd h_23 (by decide)) (fun h_23 => ?_)
          refine hg_bipush (v := (-2)) d_M_set_49 (by decide) ?_
          refine hg_ireturn d_M_set_51 rfl rfl ?_
          show hs_MP _ (so_set G (nI h) 2 n).1 (so_set G (nI h) 2 n).2 I Lg Rf X _
          have hz : so_set G (nI h) 2 n = (-2, G) := by simp [so_set, iha, ihb, ihc, hs_lim]
          rw [hz]
          exact ⟨rfl, I, Lg, rfl, hM0, fun _ _ => rfl, fun _ _ => rfl⟩
    · have ihb : hs_ix 3 y = none := hs_ix_n2 hhb
      refine hg_if_ne (tgt := 19) d_M_set_14 (by decide) (fun h_24 => absurd h_24 (by decide)) (fun h_24 => ?_)
      refine hg_iconst (v := (-1)) d_M_set_17 (by decide) ?_
      refine hg_ireturn d_M_set_18 rfl rfl ?_
      have hz : so_set G (nI h) y n = (-1, G) := by simp [so_set, iha, ihb]
      rw [hz]
      exact ⟨rfl, I, Lg, rfl, hM0, fun _ _ => rfl, fun _ _ => rfl⟩
  · have iha : hs_ix (hs_n (gN G)) x = none := hs_ix_n hha
    refine hg_if_eq (tgt := 17) d_M_set_5 (by decide) (fun h_25 => ?_) (fun h_25 => absurd (by decide) h_25)
    refine hg_iconst (v := (-1)) d_M_set_17 (by decide) ?_
    refine hg_ireturn d_M_set_18 rfl rfl ?_
    have hz : so_set G x y n = (-1, G) := by simp [so_set, iha]
    rw [hz]
    exact ⟨rfl, I, Lg, rfl, hM0, fun _ _ => rfl, fun _ _ => rfl⟩

theorem m_M_row {x y n : Int32} (hX : hg_XS (gT G) X) (hR : hg_SR (gT G) Rf) (hM0 : hs_MR G I Lg) (hG : hs_gok G) : hg_MC l E (d + 3) Y_M_row 0 0 [.ref (hg_ad E 21 0), .int x, .int y, .int n] (I, Lg, Rf, X) (hg_i (fun v M' => hs_MP v (so_row G x y n).1 (so_row G x y n).2 I Lg Rf X M')) := by
  have hM := hM0.1.1
  have hO := hG.1
  have hn6 := hO.1
  have hT := hM0.2.2.2.2.2.2.2
  have hw := hG.2.1
  refine hg_mc k_M_row (Nat.le_of_ble_eq_true rfl) ?_
  show hg_WP l E _ Y_M_row 0 0 0 [some (.ref (hg_ad E 21 0)), some (.int x), some (.int y), some (.int n), none] [] (I, Lg, Rf, X) _
  refine hg_aload0 d_M_row_0 ?_
  refine hg_iload1 d_M_row_1 ?_
  refine hg_cVi d_M_row_2 l_M_115 rfl rfl (hX.lt (n := 1) ⟨by decide, by decide⟩ rfl (by omega)) rfl (Nat.le_of_ble_eq_true rfl) (m_M_isOne hX hM.1 hn6) rfl ?_
  rintro _ _ ⟨⟨hha, rfl⟩ | ⟨hha, rfl⟩, rfl⟩
  · obtain ⟨h, hh, eh⟩ := hha
    have iha : hs_ix (hs_n (gN G)) x = some h := by rw [eh]; exact hs_ix_s hh (by omega)
    subst eh
    show hg_WP l E _ Y_M_row 0 0 5 [some (.ref (hg_ad E 21 0)), some (.int (nI h)), some (.int y), some (.int n), none] [.int 1] (I, Lg, Rf, X) _
    refine hg_if_eq (tgt := 17) d_M_row_5 (by decide) (fun h_1 => absurd h_1 (by decide)) (fun h_1 => ?_)
    refine hg_iload2 d_M_row_8 ?_
    refine hg_iconst (v := 0) d_M_row_9 (by decide) ?_
    refine hg_iconst (v := 3) d_M_row_10 (by decide) ?_
    refine hg_cSi d_M_row_11 l_M_111 rfl (Nat.le_of_ble_eq_true rfl) (m_M_in0 (b := 3) (by decide)) rfl ?_
    rintro _ _ ⟨⟨hhb, rfl⟩ | ⟨hhb, rfl⟩, rfl⟩
    · obtain ⟨j, hj, ej⟩ := hhb
      have ihb : hs_ix 4 y = some j := by rw [ej]; exact hs_ix_s (by omega) (by decide)
      subst ej
      show hg_WP l E _ Y_M_row 0 0 14 [some (.ref (hg_ad E 21 0)), some (.int (nI h)), some (.int (nI j)), some (.int n), none] [.int 1] (I, Lg, Rf, X) _
      refine hg_if_ne (tgt := 19) d_M_row_14 (by decide) (fun h_2 => ?_) (fun h_2 => absurd (by decide) h_2)
      refine hg_iload3 d_M_row_19 ?_
      refine hg_iconst (v := 0) d_M_row_20 (by decide) ?_
      refine hg_bipush (v := 9) d_M_row_21 (by decide) ?_
      refine hg_cSi d_M_row_23 l_M_111 rfl (Nat.le_of_ble_eq_true rfl) (m_M_in0 (b := 9) (by decide)) rfl ?_
      rintro _ _ ⟨⟨hhc, rfl⟩ | ⟨hhc, rfl⟩, rfl⟩
      · obtain ⟨k, hk, ek⟩ := hhc
        have ihc : hs_ix 10 n = some k := by rw [ek]; exact hs_ix_s (by omega) (by decide)
        subst ek
        show hg_WP l E _ Y_M_row 0 0 26 [some (.ref (hg_ad E 21 0)), some (.int (nI h)), some (.int (nI j)), some (.int (nI k)), none] [.int 1] (I, Lg, Rf, X) _
        refine hg_if_ne (tgt := 32) d_M_row_26 (by decide) (fun h_3 => ?_) (fun h_3 => absurd (by decide) h_3)
        refine hg_aload0 d_M_row_32 ?_
        refine hg_getR d_M_row_33 f_M_9 rfl rfl (hX.lt (n := 1) ⟨by decide, by decide⟩ rfl (by omega)) (hR.m (j := 1) (q := (22, 0)) rfl) ?_
        refine hg_iload1 d_M_row_36 ?_
        refine hg_iald_n (j := h) d_M_row_37 rfl rfl (hX.lt (n := 28) ⟨by decide, by decide⟩ rfl (by omega)) (hX.jn (n := 6) (by decide) rfl (by omega)) ?_
        refine hg_eq1 (y := hs_hv (gN G) h 0) (hM.2.2.2.2.2.2.2.1 h 0 (by assumption) (by decide)) ?_
        refine hg_bipush (v := 6) d_M_row_38 (by decide) ?_
        refine hg_icmp_eq (tgt := 46) d_M_row_40 (by decide) (fun h6 => ?_) (fun h6 => ?_)
        · refine hg_aload0 d_M_row_46 ?_
          refine hg_getR d_M_row_47 f_M_33 rfl rfl (hX.lt (n := 1) ⟨by decide, by decide⟩ rfl (by omega)) (hR.m (j := 8) (q := (22, 7)) rfl) ?_
          refine hg_iconst (v := 4) d_M_row_50 (by decide) ?_
          refine hg_iload1 d_M_row_51 ?_
          refine hg_imul d_M_row_52 ?_
          refine hg_eq1 (y := nI (4 * h)) (pk_mul _ _) ?_
          refine hg_iload2 d_M_row_53 ?_
          refine hg_iadd d_M_row_54 ?_
          refine hg_eq1 (y := nI ((4 * h) + j)) (nI_add _ _) ?_
          refine hg_iald_n (j := ((4 * h) + j)) d_M_row_55 rfl rfl (hX.lt (n := 28) ⟨by decide, by decide⟩ rfl (by omega)) (hX.jn (n := 24) (by decide) rfl (by omega)) ?_
          refine hg_eq1 (y := hs_rw (gN G) h j) (hM.2.2.2.2.2.2.2.2 h j hh (by omega)) ?_
          refine hg_istore4 d_M_row_56 rfl ?_
          refine hg_aload0 d_M_row_58 ?_
          refine hg_getR d_M_row_59 f_M_33 rfl rfl (hX.lt (n := 1) ⟨by decide, by decide⟩ rfl (by omega)) (hR.m (j := 8) (q := (22, 7)) rfl) ?_
          refine hg_iconst (v := 4) d_M_row_62 (by decide) ?_
          refine hg_iload1 d_M_row_63 ?_
          refine hg_imul d_M_row_64 ?_
          refine hg_eq1 (y := nI (4 * h)) (pk_mul _ _) ?_
          refine hg_iload2 d_M_row_65 ?_
          refine hg_iadd d_M_row_66 ?_
          refine hg_eq1 (y := nI ((4 * h) + j)) (nI_add _ _) ?_
          refine hg_iload3 d_M_row_67 ?_
          refine hg_iast_n (j := ((4 * h) + j)) d_M_row_68 rfl rfl (hX.lt (n := 28) ⟨by decide, by decide⟩ rfl (by omega)) (hX.jn (n := 24) (by decide) rfl (by omega)) ?_
          refine hg_iload4 d_M_row_69 ?_
          refine hg_ireturn d_M_row_71 rfl rfl ?_
          have hz : so_row G (nI h) (nI j) (nI k) = (hs_rw (gN G) h j, gsN G (hs_srw (gN G) h j (nI k))) := by simp [so_row, iha, ihb, ihc, h6]
          rw [hz]
          exact ⟨rfl, _, Lg, rfl, hM0.N (hM.srw (by omega)) (hm_n.rf.u22 (by decide)), (hm_n.rf.u22 (by decide)).s.lo, fun _ _ => rfl⟩
        · refine hg_bipush (v := (-3)) d_M_row_43 (by decide) ?_
          refine hg_ireturn d_M_row_45 rfl rfl ?_
          have hz : so_row G (nI h) (nI j) (nI k) = (-3, G) := by simp [so_row, iha, ihb, ihc, h6]
          rw [hz]
          exact ⟨rfl, I, Lg, rfl, hM0, fun _ _ => rfl, fun _ _ => rfl⟩
      · have ihc : hs_ix 10 n = none := hs_ix_n2 hhc
        refine hg_if_ne (tgt := 32) d_M_row_26 (by decide) (fun h_4 => absurd h_4 (by decide)) (fun h_4 => ?_)
        refine hg_bipush (v := (-2)) d_M_row_29 (by decide) ?_
        refine hg_ireturn d_M_row_31 rfl rfl ?_
        have hz : so_row G (nI h) (nI j) n = (-2, G) := by simp [so_row, iha, ihb, ihc]
        rw [hz]
        exact ⟨rfl, I, Lg, rfl, hM0, fun _ _ => rfl, fun _ _ => rfl⟩
    · have ihb : hs_ix 4 y = none := hs_ix_n2 hhb
      refine hg_if_ne (tgt := 19) d_M_row_14 (by decide) (fun h_5 => absurd h_5 (by decide)) (fun h_5 => ?_)
      refine hg_iconst (v := (-1)) d_M_row_17 (by decide) ?_
      refine hg_ireturn d_M_row_18 rfl rfl ?_
      have hz : so_row G (nI h) y n = (-1, G) := by simp [so_row, iha, ihb]
      rw [hz]
      exact ⟨rfl, I, Lg, rfl, hM0, fun _ _ => rfl, fun _ _ => rfl⟩
  · have iha : hs_ix (hs_n (gN G)) x = none := hs_ix_n hha
    refine hg_if_eq (tgt := 17) d_M_row_5 (by decide) (fun h_6 => ?_) (fun h_6 => absurd (by decide) h_6)
    refine hg_iconst (v := (-1)) d_M_row_17 (by decide) ?_
    refine hg_ireturn d_M_row_18 rfl rfl ?_
    have hz : so_row G x y n = (-1, G) := by simp [so_row, iha]
    rw [hz]
    exact ⟨rfl, I, Lg, rfl, hM0, fun _ _ => rfl, fun _ _ => rfl⟩

theorem m_M_feed {x : Int32} (hX : hg_XS (gT G) X) (hR : hg_SR (gT G) Rf) (hM0 : hs_MR G I Lg) (hG : hs_gok G) : hg_MC l E (d + 3) Y_M_feed 0 0 [.ref (hg_ad E 21 0), .int x] (I, Lg, Rf, X) (hg_i (fun v M' => hs_MP v (so_feed G x).1 (so_feed G x).2 I Lg Rf X M')) := by
  have hM := hM0.1.1
  have hO := hG.1
  have hn6 := hO.1
  have hT := hM0.2.2.2.2.2.2.2
  have hw := hG.2.1
  have hx100 := hG.2.2.2.2.2.2.1
  refine hg_mc k_M_feed (Nat.le_of_ble_eq_true rfl) ?_
  show hg_WP l E _ Y_M_feed 0 0 0 [some (.ref (hg_ad E 21 0)), some (.int x)] [] (I, Lg, Rf, X) _
  refine hg_iload1 d_M_feed_0 ?_
  refine hg_iconst (v := 0) d_M_feed_1 (by decide) ?_
  refine hg_bipush (v := 127) d_M_feed_2 (by decide) ?_
  refine hg_cSi d_M_feed_4 l_M_111 rfl (Nat.le_of_ble_eq_true rfl) (m_M_in0 (b := 127) (by decide)) rfl ?_
  rintro _ _ ⟨⟨hha, rfl⟩ | ⟨hha, rfl⟩, rfl⟩
  · obtain ⟨c, hc, ec⟩ := hha
    have iha : hs_ix 128 x = some c := by rw [ec]; exact hs_ix_s (by omega) (by decide)
    subst ec
    show hg_WP l E _ Y_M_feed 0 0 7 [some (.ref (hg_ad E 21 0)), some (.int (nI c))] [.int 1] (I, Lg, Rf, X) _
    refine hg_if_ne (tgt := 13) d_M_feed_7 (by decide) (fun h_1 => ?_) (fun h_1 => absurd (by decide) h_1)
    refine hg_aload0 d_M_feed_13 ?_
    refine hg_getI d_M_feed_14 f_M_136 rfl rfl (hX.lt (n := 1) ⟨by decide, by decide⟩ rfl (by omega)) ?_
    refine hg_eq1 (y := nI (gX G).1) (hM0.2.2.2.1.1) ?_
    refine hg_bipush (v := 100) d_M_feed_17 (by decide) ?_
    refine hg_icmp_ne (tgt := 25) d_M_feed_19 (by decide) (fun hf => ?_) (fun hf => ?_)
    · have hfn : ¬ (gX G).1 = 100 := fun z => hf (by rw [z]; rfl)
      refine hg_aload0 d_M_feed_25 ?_
      refine hg_getR d_M_feed_26 f_M_39 rfl rfl (hX.lt (n := 1) ⟨by decide, by decide⟩ rfl (by omega)) (hR.m (j := 15) (q := (22, 9)) rfl) ?_
      refine hg_aload0 d_M_feed_29 ?_
      refine hg_dup d_M_feed_30 rfl ?_
      refine hg_getI d_M_feed_31 f_M_136 rfl rfl (hX.lt (n := 1) ⟨by decide, by decide⟩ rfl (by omega)) ?_
      refine hg_eq1 (y := nI (gX G).1) (hM0.2.2.2.1.1) ?_
      refine hg_dup_x1 d_M_feed_34 rfl rfl ?_
      refine hg_iconst (v := 1) d_M_feed_35 (by decide) ?_
      refine hg_iadd d_M_feed_36 ?_
      refine hg_eq1 (y := nI ((gX G).1 + 1)) (nI_add _ _) ?_
      refine hg_putI d_M_feed_37 f_M_136 rfl rfl (Or.inl rfl) rfl rfl (hX.lt (n := 1) ⟨by decide, by decide⟩ rfl (by omega)) ?_
      refine hg_iload1 d_M_feed_40 ?_
      refine hg_iast_n (j := ((gX G).1)) d_M_feed_41 rfl rfl (hX.lt (n := 28) ⟨by decide, by decide⟩ rfl (by omega)) (hX.jn (n := 100) (by decide) rfl (by omega)) ?_
      refine hg_aload0 d_M_feed_42 ?_
      refine hg_getI d_M_feed_43 f_M_136 rfl rfl (hX.lt (n := 1) ⟨by decide, by decide⟩ rfl (by omega)) ?_
      refine hg_eq1 (y := nI ((gX G).1 + 1)) (by simp [hg_u3]) ?_
      refine hg_ireturn d_M_feed_46 rfl rfl ?_
      have hz : so_feed G (nI c) = (nI ((gX G).1 + 1), gsX G ((gX G).1 + 1, hs_up1 (gX G).2 (gX G).1 (nI c))) := by simp [so_feed, iha, hfn]
      rw [hz]
      refine ⟨rfl, _, Lg, rfl, hM0.tx (x := ((gX G).1 + 1, hs_up1 (gX G).2 (gX G).1 (nI c))) (fun r hr => ?_) (fun j hj => ?_) ⟨?_, fun j hj => ?_⟩, fun k hk => ?_, fun _ _ => rfl⟩
      · funext z; rw [hg_u3k (by omega), hg_u3k (by omega)]
      · rw [hg_u3k (by omega), hg_u3r, if_neg hj]
      · (repeat (first | rw [hg_u3k (by decide)] | (rw [hg_u3r]; first | rw [if_pos (by omega)] | rw [if_neg (by omega)])))
      · have hj : j < (gX G).1 + 1 := hj
        show _ = if j = (gX G).1 then _ else _
        by_cases z : j = (gX G).1
        · rw [if_pos z, z]; (repeat (first | rw [hg_u3k (by decide)] | (rw [hg_u3r]; first | rw [if_pos (by omega)] | rw [if_neg (by omega)])))
        · rw [if_neg z, ← hM0.2.2.2.1.2 j (by omega)]; (repeat (first | rw [hg_u3k (by decide)] | (rw [hg_u3r]; first | rw [if_pos (by omega)] | rw [if_neg (by omega)])))
      · funext a b; rw [hg_u3k (by omega), hg_u3k (by omega)]
    · replace hf := Decidable.not_not.mp hf
      have hfy : (gX G).1 = 100 := (nI_eq (b := 100) (by omega) (by decide)).mp hf
      refine hg_bipush (v := (-4)) d_M_feed_22 (by decide) ?_
      refine hg_ireturn d_M_feed_24 rfl rfl ?_
      have hz : so_feed G (nI c) = (-4, G) := by simp [so_feed, iha, hfy]
      rw [hz]
      exact ⟨rfl, I, Lg, rfl, hM0, fun _ _ => rfl, fun _ _ => rfl⟩
  · have iha : hs_ix 128 x = none := hs_ix_n2 hha
    refine hg_if_ne (tgt := 13) d_M_feed_7 (by decide) (fun h_2 => absurd h_2 (by decide)) (fun h_2 => ?_)
    refine hg_bipush (v := (-2)) d_M_feed_10 (by decide) ?_
    refine hg_ireturn d_M_feed_12 rfl rfl ?_
    have hz : so_feed G x = (-2, G) := by simp [so_feed, iha]
    rw [hz]
    exact ⟨rfl, I, Lg, rfl, hM0, fun _ _ => rfl, fun _ _ => rfl⟩

end M34
