/-! the model: DREAD, who is ill, who is HOST -/
section M30
variable {l : Launch} {E : hg_E} {d T : Nat}
variable {I : Nat → Nat → Nat → Int32} {Lg : Nat → Nat → Nat → Int64} {Rf : Nat → Nat → Nat → Option (Nat × Nat)} {X : Nat × (Nat → Nat) × (Nat → Nat → Nat)}
variable {σ : hs_S} {tw : hs_W}
theorem hs_d0 {h : Nat} (z : hs_hv σ h 0 = 0) : hs_d tw σ h = hs_sum tw σ h := by
  unfold hs_d; rw [z, if_neg (by decide), if_neg (by decide), if_neg (by decide), if_neg (by decide), if_neg (by decide), if_neg (by decide)]
theorem hs_d1 {h : Nat} (z : hs_hv σ h 0 = 1) : hs_d tw σ h = hs_sum tw σ h + hs_rich σ h := by
  unfold hs_d; rw [z, if_pos rfl]
theorem hs_d2 {h : Nat} (z : hs_hv σ h 0 = 2) : hs_d tw σ h = hs_sum tw σ h / 2 := by
  unfold hs_d; rw [z, if_neg (by decide), if_pos rfl]
theorem hs_d3 {h : Nat} (z : hs_hv σ h 0 = 3) : hs_d tw σ h = hs_sum tw σ h - hs_used σ h := by
  unfold hs_d; rw [z, if_neg (by decide), if_neg (by decide), if_pos rfl]
theorem hs_d4 {h : Nat} (z : hs_hv σ h 0 = 4) : hs_d tw σ h = (hs_sum tw σ h + hs_rich σ h) * (if hs_hv σ h 4 = 0 then 2 else 1) := by
  unfold hs_d; rw [z, if_neg (by decide), if_neg (by decide), if_neg (by decide), if_pos rfl]
theorem hs_d5 {h : Nat} (z : hs_hv σ h 0 = 5) : hs_d tw σ h = hs_sum tw σ h / 2 + hs_hv σ h 3 := by
  unfold hs_d; rw [z, if_neg (by decide), if_neg (by decide), if_neg (by decide), if_neg (by decide), if_pos rfl]
theorem hs_d6 {h : Nat} (z : hs_hv σ h 0 = 6) : hs_d tw σ h = hs_sum tw σ h - hs_used σ h + hs_rw σ h (hs_wk σ % 4) := by
  unfold hs_d; rw [z, if_neg (by decide), if_neg (by decide), if_neg (by decide), if_neg (by decide), if_neg (by decide), if_pos rfl]
theorem m_M_dread {p : Nat} (hX : hg_XS T X) (hR : hg_SR T Rf) (hM : hs_MS σ I) (hO : hs_ok T σ) (hT : hs_MT T tw I) (hp : p < hs_n σ) (hw : hs_wk σ ≤ 99999) : hg_MC l E (d + 4) Y_M_dread 0 0 [.ref (hg_ad E 21 0), .int (nI p)] (I, Lg, Rf, X) (hg_i (fun v M' => hm_A v (hs_d tw σ p) I Lg Rf X M')) := by
  have hn6 := hO.1
  refine hg_mc k_M_dread (Nat.le_of_ble_eq_true rfl) ?_
  show hg_WP l E _ Y_M_dread 0 0 0 [some (.ref (hg_ad E 21 0)), some (.int (nI p)), none, none, none] [] (I, Lg, Rf, X) _
  refine hg_aload0 d_M_dread_0 ?_
  refine hg_iload1 d_M_dread_1 ?_
  refine hg_cVi d_M_dread_2 l_M_225 rfl rfl (hX.lt (n := 1) ⟨by decide, by decide⟩ rfl (by omega)) rfl (Nat.le_of_ble_eq_true rfl) (m_M_sum hX hR hM hO hT hp) rfl ?_
  rintro _ _ ⟨rfl, I2, rfl, hq2⟩
  have hM2 := hM.e hq2
  refine hg_istore2 d_M_dread_5 rfl ?_
  refine hg_aload0 d_M_dread_6 ?_
  refine hg_getI d_M_dread_7 f_M_214 rfl rfl (hX.lt (n := 1) ⟨by decide, by decide⟩ rfl (by omega)) ?_
  refine hg_eq1 (y := nI (hs_wk σ)) (hM2.2.2.2.2.1) ?_
  refine hg_iconst (v := 4) d_M_dread_10 (by decide) ?_
  refine hg_irem d_M_dread_11 (by decide) ?_
  refine hg_iconst (v := 2) d_M_dread_12 (by decide) ?_
  refine hg_icmp_ne (tgt := 27) d_M_dread_13 (by decide) (fun hr => ?_) (fun hr => ?_)
  · refine hg_iload2 d_M_dread_27 ?_
    refine hg_eq1 (y := hs_sum tw σ p + hs_rich σ p) (by unfold hs_rich; rw [if_neg hr, Int32.add_zero]) ?_
    refine hg_istore3 d_M_dread_28 rfl ?_
    refine hg_iload2 d_M_dread_29 ?_
    refine hg_bipush (v := 30) d_M_dread_30 (by decide) ?_
    refine hg_iconst (v := 3) d_M_dread_32 (by decide) ?_
    refine hg_aload0 d_M_dread_33 ?_
    refine hg_getR d_M_dread_34 f_M_24 rfl rfl (hX.lt (n := 1) ⟨by decide, by decide⟩ rfl (by omega)) (hR.m (j := 5) (q := (22, 4)) rfl) ?_
    refine hg_iload1 d_M_dread_37 ?_
    refine hg_iald_n (j := p) d_M_dread_38 rfl rfl (hX.lt (n := 28) ⟨by decide, by decide⟩ rfl (by omega)) (hX.jn (n := 6) (by decide) rfl (by omega)) ?_
    refine hg_eq1 (y := hs_hv σ p 4) (hM2.2.2.2.2.2.2.2.1 p 4 hp (by decide)) ?_
    refine hg_imul d_M_dread_39 ?_
    refine hg_min d_M_dread_40 l_M_228 (Nat.le_of_ble_eq_true rfl) ?_
    refine hg_eq1 (y := hs_used σ p) (rfl) ?_
    refine hg_isub d_M_dread_43 ?_
    refine hg_istore4 d_M_dread_44 rfl ?_
    refine hg_aload0 d_M_dread_46 ?_
    refine hg_getR d_M_dread_47 f_M_9 rfl rfl (hX.lt (n := 1) ⟨by decide, by decide⟩ rfl (by omega)) (hR.m (j := 1) (q := (22, 0)) rfl) ?_
    refine hg_iload1 d_M_dread_50 ?_
    refine hg_iald_n (j := p) d_M_dread_51 rfl rfl (hX.lt (n := 28) ⟨by decide, by decide⟩ rfl (by omega)) (hX.jn (n := 6) (by decide) rfl (by omega)) ?_
    refine hg_eq1 (y := hs_hv σ p 0) (hM2.2.2.2.2.2.2.2.1 p 0 hp (by decide)) ?_
    obtain ⟨k, hk, ek⟩ := (hO.2.2.2.2.1 p hp).1
    have h7 : k = 0 ∨ k = 1 ∨ k = 2 ∨ k = 3 ∨ k = 4 ∨ k = 5 ∨ k = 6 := by omega
    rcases h7 with rfl | rfl | rfl | rfl | rfl | rfl | rfl
    · refine hg_eq1 (y := 0) ek ?_
      refine hg_tabO (tgt := 148) d_M_dread_52 (by decide) (by decide) ?_
      refine hg_iload2 d_M_dread_148 ?_
      refine hg_ireturn d_M_dread_149 rfl rfl ?_
      refine ⟨?_, I2, rfl, hq2⟩
      exact (hs_d0 ek).symm
    · refine hg_eq1 (y := 1) ek ?_
      refine hg_tabI (off := 40) (tgt := 92) d_M_dread_52 (by decide) (by decide) rfl (by decide) ?_
      refine hg_iload3 d_M_dread_92 ?_
      refine hg_ireturn d_M_dread_93 rfl rfl ?_
      refine ⟨?_, I2, rfl, hq2⟩
      exact (hs_d1 ek).symm
    · refine hg_eq1 (y := 2) ek ?_
      refine hg_tabI (off := 42) (tgt := 94) d_M_dread_52 (by decide) (by decide) rfl (by decide) ?_
      refine hg_iload2 d_M_dread_94 ?_
      refine hg_iconst (v := 2) d_M_dread_95 (by decide) ?_
      refine hg_idiv d_M_dread_96 (by decide) ?_
      refine hg_ireturn d_M_dread_97 rfl rfl ?_
      refine ⟨?_, I2, rfl, hq2⟩
      exact (hs_d2 ek).symm
    · refine hg_eq1 (y := 3) ek ?_
      refine hg_tabI (off := 46) (tgt := 98) d_M_dread_52 (by decide) (by decide) rfl (by decide) ?_
      refine hg_iload4 d_M_dread_98 ?_
      refine hg_ireturn d_M_dread_100 rfl rfl ?_
      refine ⟨?_, I2, rfl, hq2⟩
      exact (hs_d3 ek).symm
    · refine hg_eq1 (y := 4) ek ?_
      refine hg_tabI (off := 49) (tgt := 101) d_M_dread_52 (by decide) (by decide) rfl (by decide) ?_
      refine hg_aload0 d_M_dread_101 ?_
      refine hg_getR d_M_dread_102 f_M_24 rfl rfl (hX.lt (n := 1) ⟨by decide, by decide⟩ rfl (by omega)) (hR.m (j := 5) (q := (22, 4)) rfl) ?_
      refine hg_iload1 d_M_dread_105 ?_
      refine hg_iald_n (j := p) d_M_dread_106 rfl rfl (hX.lt (n := 28) ⟨by decide, by decide⟩ rfl (by omega)) (hX.jn (n := 6) (by decide) rfl (by omega)) ?_
      refine hg_eq1 (y := hs_hv σ p 4) (hM2.2.2.2.2.2.2.2.1 p 4 hp (by decide)) ?_
      refine hg_if_ne (tgt := 116) d_M_dread_107 (by decide) (fun h4 => ?_) (fun h4 => ?_)
      · refine hg_iload3 d_M_dread_116 ?_
        refine hg_ireturn d_M_dread_117 rfl rfl ?_
        refine ⟨?_, I2, rfl, hq2⟩
        rw [hs_d4 ek]; first | (rw [if_pos h4, Int32.mul_comm]) | (rw [if_neg h4, Int32.mul_one])
      · replace h4 := Decidable.not_not.mp h4
        refine hg_iconst (v := 2) d_M_dread_110 (by decide) ?_
        refine hg_iload3 d_M_dread_111 ?_
        refine hg_imul d_M_dread_112 ?_
        refine hg_goto (tgt := 117) d_M_dread_113 (by decide) ?_
        refine hg_ireturn d_M_dread_117 rfl rfl ?_
        refine ⟨?_, I2, rfl, hq2⟩
        rw [hs_d4 ek]; first | (rw [if_pos h4, Int32.mul_comm]) | (rw [if_neg h4, Int32.mul_one])
    · refine hg_eq1 (y := 5) ek ?_
      refine hg_tabI (off := 66) (tgt := 118) d_M_dread_52 (by decide) (by decide) rfl (by decide) ?_
      refine hg_iload2 d_M_dread_118 ?_
      refine hg_iconst (v := 2) d_M_dread_119 (by decide) ?_
      refine hg_idiv d_M_dread_120 (by decide) ?_
      refine hg_aload0 d_M_dread_121 ?_
      refine hg_getR d_M_dread_122 f_M_21 rfl rfl (hX.lt (n := 1) ⟨by decide, by decide⟩ rfl (by omega)) (hR.m (j := 4) (q := (22, 3)) rfl) ?_
      refine hg_iload1 d_M_dread_125 ?_
      refine hg_iald_n (j := p) d_M_dread_126 rfl rfl (hX.lt (n := 28) ⟨by decide, by decide⟩ rfl (by omega)) (hX.jn (n := 6) (by decide) rfl (by omega)) ?_
      refine hg_eq1 (y := hs_hv σ p 3) (hM2.2.2.2.2.2.2.2.1 p 3 hp (by decide)) ?_
      refine hg_iadd d_M_dread_127 ?_
      refine hg_ireturn d_M_dread_128 rfl rfl ?_
      refine ⟨?_, I2, rfl, hq2⟩
      exact (hs_d5 ek).symm
    · refine hg_eq1 (y := 6) ek ?_
      refine hg_tabI (off := 77) (tgt := 129) d_M_dread_52 (by decide) (by decide) rfl (by decide) ?_
      refine hg_iload4 d_M_dread_129 ?_
      refine hg_aload0 d_M_dread_131 ?_
      refine hg_getR d_M_dread_132 f_M_33 rfl rfl (hX.lt (n := 1) ⟨by decide, by decide⟩ rfl (by omega)) (hR.m (j := 8) (q := (22, 7)) rfl) ?_
      refine hg_iconst (v := 4) d_M_dread_135 (by decide) ?_
      refine hg_iload1 d_M_dread_136 ?_
      refine hg_imul d_M_dread_137 ?_
      refine hg_eq1 (y := nI (4 * p)) (pk_mul _ _) ?_
      refine hg_aload0 d_M_dread_138 ?_
      refine hg_getI d_M_dread_139 f_M_214 rfl rfl (hX.lt (n := 1) ⟨by decide, by decide⟩ rfl (by omega)) ?_
      refine hg_eq1 (y := nI (hs_wk σ)) (hM2.2.2.2.2.1) ?_
      refine hg_iconst (v := 4) d_M_dread_142 (by decide) ?_
      refine hg_irem d_M_dread_143 (by decide) ?_
      refine hg_eq1 (y := nI (hs_wk σ % 4)) (pk_rem (d := 4) (by omega) (by decide) (by decide)) ?_
      refine hg_iadd d_M_dread_144 ?_
      refine hg_eq1 (y := nI ((4 * p) + (hs_wk σ % 4))) (nI_add _ _) ?_
      refine hg_iald_n (j := ((4 * p) + (hs_wk σ % 4))) d_M_dread_145 rfl rfl (hX.lt (n := 28) ⟨by decide, by decide⟩ rfl (by omega)) (hX.jn (n := 24) (by decide) rfl (by omega)) ?_
      refine hg_eq1 (y := hs_rw σ p (hs_wk σ % 4)) (hM2.2.2.2.2.2.2.2.2 p _ hp (Nat.mod_lt _ (by decide))) ?_
      refine hg_iadd d_M_dread_146 ?_
      refine hg_ireturn d_M_dread_147 rfl rfl ?_
      refine ⟨?_, I2, rfl, hq2⟩
      exact (hs_d6 ek).symm
  · replace hr := Decidable.not_not.mp hr
    refine hg_iload2 d_M_dread_16 ?_
    refine hg_aload0 d_M_dread_17 ?_
    refine hg_getR d_M_dread_18 f_M_15 rfl rfl (hX.lt (n := 1) ⟨by decide, by decide⟩ rfl (by omega)) (hR.m (j := 2) (q := (22, 1)) rfl) ?_
    refine hg_iload1 d_M_dread_21 ?_
    refine hg_iald_n (j := p) d_M_dread_22 rfl rfl (hX.lt (n := 28) ⟨by decide, by decide⟩ rfl (by omega)) (hX.jn (n := 6) (by decide) rfl (by omega)) ?_
    refine hg_eq1 (y := hs_hv σ p 1) (hM2.2.2.2.2.2.2.2.1 p 1 hp (by decide)) ?_
    refine hg_iadd d_M_dread_23 ?_
    refine hg_goto (tgt := 28) d_M_dread_24 (by decide) ?_
    refine hg_eq1 (y := hs_sum tw σ p + hs_rich σ p) (by unfold hs_rich; rw [if_pos hr]) ?_
    refine hg_istore3 d_M_dread_28 rfl ?_
    refine hg_iload2 d_M_dread_29 ?_
    refine hg_bipush (v := 30) d_M_dread_30 (by decide) ?_
    refine hg_iconst (v := 3) d_M_dread_32 (by decide) ?_
    refine hg_aload0 d_M_dread_33 ?_
    refine hg_getR d_M_dread_34 f_M_24 rfl rfl (hX.lt (n := 1) ⟨by decide, by decide⟩ rfl (by omega)) (hR.m (j := 5) (q := (22, 4)) rfl) ?_
    refine hg_iload1 d_M_dread_37 ?_
    refine hg_iald_n (j := p) d_M_dread_38 rfl rfl (hX.lt (n := 28) ⟨by decide, by decide⟩ rfl (by omega)) (hX.jn (n := 6) (by decide) rfl (by omega)) ?_
    refine hg_eq1 (y := hs_hv σ p 4) (hM2.2.2.2.2.2.2.2.1 p 4 hp (by decide)) ?_
    refine hg_imul d_M_dread_39 ?_
    refine hg_min d_M_dread_40 l_M_228 (Nat.le_of_ble_eq_true rfl) ?_
    refine hg_eq1 (y := hs_used σ p) (rfl) ?_
    refine hg_isub d_M_dread_43 ?_
    refine hg_istore4 d_M_dread_44 rfl ?_
    refine hg_aload0 d_M_dread_46 ?_
    refine hg_getR d_M_dread_47 f_M_9 rfl rfl (hX.lt (n := 1) ⟨by decide, by decide⟩ rfl (by omega)) (hR.m (j := 1) (q := (22, 0)) rfl) ?_
    refine hg_iload1 d_M_dread_50 ?_
    refine hg_iald_n (j := p) d_M_dread_51 rfl rfl (hX.lt (n := 28) ⟨by decide, by decide⟩ rfl (by omega)) (hX.jn (n := 6) (by decide) rfl (by omega)) ?_
    refine hg_eq1 (y := hs_hv σ p 0) (hM2.2.2.2.2.2.2.2.1 p 0 hp (by decide)) ?_
    obtain ⟨k, hk, ek⟩ := (hO.2.2.2.2.1 p hp).1
    have h7 : k = 0 ∨ k = 1 ∨ k = 2 ∨ k = 3 ∨ k = 4 ∨ k = 5 ∨ k = 6 := by omega
    rcases h7 with rfl | rfl | rfl | rfl | rfl | rfl | rfl
    · refine hg_eq1 (y := 0) ek ?_
      refine hg_tabO (tgt := 148) d_M_dread_52 (by decide) (by decide) ?_
      refine hg_iload2 d_M_dread_148 ?_
      refine hg_ireturn d_M_dread_149 rfl rfl ?_
      refine ⟨?_, I2, rfl, hq2⟩
      exact (hs_d0 ek).symm
    · refine hg_eq1 (y := 1) ek ?_
      refine hg_tabI (off := 40) (tgt := 92) d_M_dread_52 (by decide) (by decide) rfl (by decide) ?_
      refine hg_iload3 d_M_dread_92 ?_
      refine hg_ireturn d_M_dread_93 rfl rfl ?_
      refine ⟨?_, I2, rfl, hq2⟩
      exact (hs_d1 ek).symm
    · refine hg_eq1 (y := 2) ek ?_
      refine hg_tabI (off := 42) (tgt := 94) d_M_dread_52 (by decide) (by decide) rfl (by decide) ?_
      refine hg_iload2 d_M_dread_94 ?_
      refine hg_iconst (v := 2) d_M_dread_95 (by decide) ?_
      refine hg_idiv d_M_dread_96 (by decide) ?_
      refine hg_ireturn d_M_dread_97 rfl rfl ?_
      refine ⟨?_, I2, rfl, hq2⟩
      exact (hs_d2 ek).symm
    · refine hg_eq1 (y := 3) ek ?_
      refine hg_tabI (off := 46) (tgt := 98) d_M_dread_52 (by decide) (by decide) rfl (by decide) ?_
      refine hg_iload4 d_M_dread_98 ?_
      refine hg_ireturn d_M_dread_100 rfl rfl ?_
      refine ⟨?_, I2, rfl, hq2⟩
      exact (hs_d3 ek).symm
    · refine hg_eq1 (y := 4) ek ?_
      refine hg_tabI (off := 49) (tgt := 101) d_M_dread_52 (by decide) (by decide) rfl (by decide) ?_
      refine hg_aload0 d_M_dread_101 ?_
      refine hg_getR d_M_dread_102 f_M_24 rfl rfl (hX.lt (n := 1) ⟨by decide, by decide⟩ rfl (by omega)) (hR.m (j := 5) (q := (22, 4)) rfl) ?_
      refine hg_iload1 d_M_dread_105 ?_
      refine hg_iald_n (j := p) d_M_dread_106 rfl rfl (hX.lt (n := 28) ⟨by decide, by decide⟩ rfl (by omega)) (hX.jn (n := 6) (by decide) rfl (by omega)) ?_
      refine hg_eq1 (y := hs_hv σ p 4) (hM2.2.2.2.2.2.2.2.1 p 4 hp (by decide)) ?_
      refine hg_if_ne (tgt := 116) d_M_dread_107 (by decide) (fun h4 => ?_) (fun h4 => ?_)
      · refine hg_iload3 d_M_dread_116 ?_
        refine hg_ireturn d_M_dread_117 rfl rfl ?_
        refine ⟨?_, I2, rfl, hq2⟩
        rw [hs_d4 ek]; first | (rw [if_pos h4, Int32.mul_comm]) | (rw [if_neg h4, Int32.mul_one])
      · replace h4 := Decidable.not_not.mp h4
        refine hg_iconst (v := 2) d_M_dread_110 (by decide) ?_
        refine hg_iload3 d_M_dread_111 ?_
        refine hg_imul d_M_dread_112 ?_
        refine hg_goto (tgt := 117) d_M_dread_113 (by decide) ?_
        refine hg_ireturn d_M_dread_117 rfl rfl ?_
        refine ⟨?_, I2, rfl, hq2⟩
        rw [hs_d4 ek]; first | (rw [if_pos h4, Int32.mul_comm]) | (rw [if_neg h4, Int32.mul_one])
    · refine hg_eq1 (y := 5) ek ?_
      refine hg_tabI (off := 66) (tgt := 118) d_M_dread_52 (by decide) (by decide) rfl (by decide) ?_
      refine hg_iload2 d_M_dread_118 ?_
      refine hg_iconst (v := 2) d_M_dread_119 (by decide) ?_
      refine hg_idiv d_M_dread_120 (by decide) ?_
      refine hg_aload0 d_M_dread_121 ?_
      refine hg_getR d_M_dread_122 f_M_21 rfl rfl (hX.lt (n := 1) ⟨by decide, by decide⟩ rfl (by omega)) (hR.m (j := 4) (q := (22, 3)) rfl) ?_
      refine hg_iload1 d_M_dread_125 ?_
      refine hg_iald_n (j := p) d_M_dread_126 rfl rfl (hX.lt (n := 28) ⟨by decide, by decide⟩ rfl (by omega)) (hX.jn (n := 6) (by decide) rfl (by omega)) ?_
      refine hg_eq1 (y := hs_hv σ p 3) (hM2.2.2.2.2.2.2.2.1 p 3 hp (by decide)) ?_
      refine hg_iadd d_M_dread_127 ?_
      refine hg_ireturn d_M_dread_128 rfl rfl ?_
      refine ⟨?_, I2, rfl, hq2⟩
      exact (hs_d5 ek).symm
    · refine hg_eq1 (y := 6) ek ?_
      refine hg_tabI (off := 77) (tgt := 129) d_M_dread_52 (by decide) (by decide) rfl (by decide) ?_
      refine hg_iload4 d_M_dread_129 ?_
      refine hg_aload0 d_M_dread_131 ?_
      refine hg_getR d_M_dread_132 f_M_33 rfl rfl (hX.lt (n := 1) ⟨by decide, by decide⟩ rfl (by omega)) (hR.m (j := 8) (q := (22, 7)) rfl) ?_
      refine hg_iconst (v := 4) d_M_dread_135 (by decide) ?_
      refine hg_iload1 d_M_dread_136 ?_
      refine hg_imul d_M_dread_137 ?_
      refine hg_eq1 (y := nI (4 * p)) (pk_mul _ _) ?_
      refine hg_aload0 d_M_dread_138 ?_
      refine hg_getI d_M_dread_139 f_M_214 rfl rfl (hX.lt (n := 1) ⟨by decide, by decide⟩ rfl (by omega)) ?_
      refine hg_eq1 (y := nI (hs_wk σ)) (hM2.2.2.2.2.1) ?_
      refine hg_iconst (v := 4) d_M_dread_142 (by decide) ?_
      refine hg_irem d_M_dread_143 (by decide) ?_
      refine hg_eq1 (y := nI (hs_wk σ % 4)) (pk_rem (d := 4) (by omega) (by decide) (by decide)) ?_
      refine hg_iadd d_M_dread_144 ?_
      refine hg_eq1 (y := nI ((4 * p) + (hs_wk σ % 4))) (nI_add _ _) ?_
      refine hg_iald_n (j := ((4 * p) + (hs_wk σ % 4))) d_M_dread_145 rfl rfl (hX.lt (n := 28) ⟨by decide, by decide⟩ rfl (by omega)) (hX.jn (n := 24) (by decide) rfl (by omega)) ?_
      refine hg_eq1 (y := hs_rw σ p (hs_wk σ % 4)) (hM2.2.2.2.2.2.2.2.2 p _ hp (Nat.mod_lt _ (by decide))) ?_
      refine hg_iadd d_M_dread_146 ?_
      refine hg_ireturn d_M_dread_147 rfl rfl ?_
      refine ⟨?_, I2, rfl, hq2⟩
      exact (hs_d6 ek).symm

theorem m_M_isIll {p : Nat} (hX : hg_XS T X) (hR : hg_SR T Rf) (hM : hs_MS σ I) (hO : hs_ok T σ) (hT : hs_MT T tw I) (hp : p < hs_n σ) (hw : hs_wk σ ≤ 99999) : hg_MC l E (d + 5) Y_M_isIll 0 0 [.ref (hg_ad E 21 0), .int (nI p)] (I, Lg, Rf, X) (hg_i (fun v M' => hm_A v ((if hs_illb tw σ p = true then 1 else 0 : Int32)) I Lg Rf X M')) := by
  have hn6 := hO.1
  refine hg_mc k_M_isIll (Nat.le_of_ble_eq_true rfl) ?_
  show hg_WP l E _ Y_M_isIll 0 0 0 [some (.ref (hg_ad E 21 0)), some (.int (nI p))] [] (I, Lg, Rf, X) _
  refine hg_aload0 d_M_isIll_0 ?_
  refine hg_getR d_M_isIll_1 f_M_30 rfl rfl (hX.lt (n := 1) ⟨by decide, by decide⟩ rfl (by omega)) (hR.m (j := 7) (q := (22, 6)) rfl) ?_
  refine hg_iload1 d_M_isIll_4 ?_
  refine hg_iald_n (j := p) d_M_isIll_5 rfl rfl (hX.lt (n := 28) ⟨by decide, by decide⟩ rfl (by omega)) (hX.jn (n := 6) (by decide) rfl (by omega)) ?_
  refine hg_eq1 (y := hs_hv σ p 6) (hM.2.2.2.2.2.2.2.1 p 6 hp (by decide)) ?_
  refine hg_iconst (v := 1) d_M_isIll_6 (by decide) ?_
  refine hg_icmp_eq (tgt := 22) d_M_isIll_7 (by decide) (fun h1 => ?_) (fun h1 => ?_)
  · refine hg_iconst (v := 1) d_M_isIll_22 (by decide) ?_
    refine hg_goto (tgt := 27) d_M_isIll_23 (by decide) ?_
    refine hg_ireturn d_M_isIll_27 rfl (by decide) ?_
    exact ⟨(if_pos (hs_illb_t (Or.inl (by rw [h1]; decide)))).symm, I, rfl, hm_e.rf⟩
  · refine hg_aload0 d_M_isIll_10 ?_
    refine hg_iload1 d_M_isIll_11 ?_
    refine hg_cVi d_M_isIll_12 l_M_119 rfl rfl (hX.lt (n := 1) ⟨by decide, by decide⟩ rfl (by omega)) rfl (Nat.le_of_ble_eq_true rfl) (m_M_dread hX hR hM hO hT hp hw) rfl ?_
    rintro _ _ ⟨rfl, I2, rfl, hq2⟩
    refine hg_aload0 d_M_isIll_15 ?_
    refine hg_cVi d_M_isIll_16 l_M_233 rfl rfl (hX.lt (n := 1) ⟨by decide, by decide⟩ rfl (by omega)) rfl (Nat.le_of_ble_eq_true rfl) (m_M_illFrom hX hR (hM.e hq2) hO (hT.e hq2)) rfl ?_
    rintro _ _ ⟨rfl, rfl⟩
    refine hg_icmp_lt (tgt := 26) d_M_isIll_19 (by decide) (fun h2 => ?_) (fun h2 => ?_)
    · refine hg_iconst (v := 0) d_M_isIll_26 (by decide) ?_
      refine hg_ireturn d_M_isIll_27 rfl (by decide) ?_
      exact ⟨(if_neg (fun z => (hs_illb_i.mp z).elim (fun y => (hO.2.2.2.2.1 p hp).2.2.elim (fun a => y a) h1) (fun y => absurd h2 (Int32.not_lt.mpr y)))).symm, I2, rfl, hq2⟩
    · refine hg_iconst (v := 1) d_M_isIll_22 (by decide) ?_
      refine hg_goto (tgt := 27) d_M_isIll_23 (by decide) ?_
      refine hg_ireturn d_M_isIll_27 rfl (by decide) ?_
      exact ⟨(if_pos (hs_illb_t (Or.inr (Int32.not_lt.mp h2)))).symm, I2, rfl, hq2⟩

theorem m_M_ills_loop (hX : hg_XS T X) (hR : hg_SR T Rf) (hM : hs_MS σ I) (hO : hs_ok T σ) (hT : hs_MT T tw I) (hw : hs_wk σ ≤ 99999) : ∀ (k p : Nat) (I1 : Nat → Nat → Nat → Int32), p + k = hs_n σ → hm_e I1 I → hg_WP l E (d + 5) Y_M_ills 0 0 4 [some (.ref (hg_ad E 21 0)), some (.int (nI (hs_mk (hs_illb tw σ) p))), some (.int (nI p))] [] (I1, Lg, Rf, X) (hg_i (fun v M' => hm_A v (nI (hs_mk (hs_illb tw σ) (hs_n σ))) I Lg Rf X M')) := by
  have hn6 := hO.1
  intro k
  induction k with
  | zero =>
    intro p I1 hpk hq
    obtain rfl : p = hs_n σ := by omega
    refine hg_iload2 d_M_ills_4 ?_
    refine hg_aload0 d_M_ills_5 ?_
    refine hg_getI d_M_ills_6 f_M_108 rfl rfl (hX.lt (n := 1) ⟨by decide, by decide⟩ rfl (by omega)) ?_
    refine hg_eq1 (y := nI (hs_n σ)) ((hM.e hq).1) ?_
    refine hg_icmp_ge (tgt := 32) d_M_ills_9 (by decide) (fun h_1 => ?_) (fun h_1 => absurd (Int32.le_refl _) h_1)
    refine hg_iload1 d_M_ills_32 ?_
    refine hg_ireturn d_M_ills_33 rfl rfl ?_
    exact ⟨rfl, I1, rfl, hq⟩
  | succ k ih =>
    intro p I1 hpk hq
    refine hg_iload2 d_M_ills_4 ?_
    refine hg_aload0 d_M_ills_5 ?_
    refine hg_getI d_M_ills_6 f_M_108 rfl rfl (hX.lt (n := 1) ⟨by decide, by decide⟩ rfl (by omega)) ?_
    refine hg_eq1 (y := nI (hs_n σ)) ((hM.e hq).1) ?_
    refine hg_icmp_ge (tgt := 32) d_M_ills_9 (by decide) (fun h_2 => absurd h_2 (nI_ge (by omega) (by omega))) (fun h_2 => ?_)
    refine hg_aload0 d_M_ills_12 ?_
    refine hg_iload2 d_M_ills_13 ?_
    refine hg_cVi d_M_ills_14 l_M_123 rfl rfl (hX.lt (n := 1) ⟨by decide, by decide⟩ rfl (by omega)) rfl (Nat.le_of_ble_eq_true rfl) (m_M_isIll hX hR (hM.e hq) hO (hT.e hq) (show p < hs_n σ by omega) hw) rfl ?_
    rintro _ _ ⟨rfl, I2, rfl, hq2⟩
    by_cases hI : hs_illb tw σ p = true
    · refine hg_eq1 (y := 1) (if_pos hI) ?_
      refine hg_if_eq (tgt := 26) d_M_ills_17 (by decide) (fun h_3 => absurd h_3 (by decide)) (fun h_3 => ?_)
      refine hg_iload1 d_M_ills_20 ?_
      refine hg_iconst (v := 1) d_M_ills_21 (by decide) ?_
      refine hg_iload2 d_M_ills_22 ?_
      refine hg_ishl d_M_ills_23 ?_
      refine hg_ior d_M_ills_24 ?_
      refine hg_eq1 (y := nI (hs_mk (hs_illb tw σ) p + 2 ^ p)) (fg_or p (by omega) _ (hs_mk_lt _ p)) ?_
      refine hg_istore1 d_M_ills_25 rfl ?_
      refine hg_iinc2 (v := nI (p + 1)) d_M_ills_26 rfl (nI_add _ _) ?_
      refine hg_goto (tgt := 4) d_M_ills_29 (by decide) ?_
      rw [show nI (hs_mk (hs_illb tw σ) p + 2 ^ p) = nI (hs_mk (hs_illb tw σ) (p + 1)) from congrArg nI (show _ = if hs_illb tw σ p = true then _ else _ from (if_pos hI).symm)]
      exact ih (p + 1) I2 (by omega) (hm_e.tr hq2 hq)
    · refine hg_eq1 (y := 0) (if_neg hI) ?_
      refine hg_if_eq (tgt := 26) d_M_ills_17 (by decide) (fun h_4 => ?_) (fun h_4 => absurd (by decide) h_4)
      refine hg_iinc2 (v := nI (p + 1)) d_M_ills_26 rfl (nI_add _ _) ?_
      refine hg_goto (tgt := 4) d_M_ills_29 (by decide) ?_
      rw [show nI (hs_mk (hs_illb tw σ) p) = nI (hs_mk (hs_illb tw σ) (p + 1)) from congrArg nI (show _ = if hs_illb tw σ p = true then _ else _ from (if_neg hI).symm)]
      exact ih (p + 1) I2 (by omega) (hm_e.tr hq2 hq)
theorem m_M_ills (hX : hg_XS T X) (hR : hg_SR T Rf) (hM : hs_MS σ I) (hO : hs_ok T σ) (hT : hs_MT T tw I) (hw : hs_wk σ ≤ 99999) : hg_MC l E (d + 6) Y_M_ills 0 0 [.ref (hg_ad E 21 0)] (I, Lg, Rf, X) (hg_i (fun v M' => hm_A v (nI (hs_mk (hs_illb tw σ) (hs_n σ))) I Lg Rf X M')) := by
  have hn6 := hO.1
  refine hg_mc k_M_ills (Nat.le_of_ble_eq_true rfl) ?_
  show hg_WP l E _ Y_M_ills 0 0 0 [some (.ref (hg_ad E 21 0)), none, none] [] (I, Lg, Rf, X) _
  refine hg_iconst (v := 0) d_M_ills_0 (by decide) ?_
  refine hg_istore1 d_M_ills_1 rfl ?_
  refine hg_iconst (v := 0) d_M_ills_2 (by decide) ?_
  refine hg_istore2 d_M_ills_3 rfl ?_
  exact m_M_ills_loop hX hR hM hO hT hw _ 0 I (Nat.zero_add _) hm_e.rf

def hs_plv (σ : hs_S) : Option Nat → Int32
  | none => -5
  | some i => nI (hs_pl σ i)
theorem m_M_placeBy_loop (hX : hg_XS T X) (hR : hg_SR T Rf) (hM : hs_MS σ I) (hO : hs_ok T σ) : ∀ (k i : Nat) (a3 : Option Value), i + k = hs_n σ → hg_WP l E (d + 1) Y_M_placeBy 0 0 2 [some (.ref (hg_ad E 21 0)), some (.int (nI (hs_mk (hs_illb tw σ) (hs_n σ)))), some (.int (nI i)), a3] [] (I, Lg, Rf, X) (hg_i (fun v M' => v = hs_plv σ (hs_hpA tw σ k i) ∧ M' = (I, Lg, Rf, X))) := by
  have hn6 := hO.1
  intro k
  induction k with
  | zero =>
    intro i a3 hik
    obtain rfl : i = hs_n σ := by omega
    refine hg_iload2 d_M_placeBy_2 ?_
    refine hg_aload0 d_M_placeBy_3 ?_
    refine hg_getI d_M_placeBy_4 f_M_108 rfl rfl (hX.lt (n := 1) ⟨by decide, by decide⟩ rfl (by omega)) ?_
    refine hg_eq1 (y := nI (hs_n σ)) (hM.1) ?_
    refine hg_icmp_ge (tgt := 43) d_M_placeBy_7 (by decide) (fun h_1 => ?_) (fun h_1 => absurd (Int32.le_refl _) h_1)
    refine hg_bipush (v := (-5)) d_M_placeBy_43 (by decide) ?_
    refine hg_ireturn d_M_placeBy_45 rfl rfl ?_
    exact ⟨rfl, rfl⟩
  | succ k ih =>
    intro i a3 hik
    have hpp : hs_p σ < hs_n σ := by have := hO.2.1; omega
    have hpl : hs_pl σ i < hs_n σ := hg_pl_lt hpp (by omega)
    have hsl := hO.2.2.1 _ hpl
    refine hg_iload2 d_M_placeBy_2 ?_
    refine hg_aload0 d_M_placeBy_3 ?_
    refine hg_getI d_M_placeBy_4 f_M_108 rfl rfl (hX.lt (n := 1) ⟨by decide, by decide⟩ rfl (by omega)) ?_
    refine hg_eq1 (y := nI (hs_n σ)) (hM.1) ?_
    refine hg_icmp_ge (tgt := 43) d_M_placeBy_7 (by decide) (fun h_2 => absurd h_2 (nI_ge (by omega) (by omega))) (fun h_2 => ?_)
    refine hg_aload0 d_M_placeBy_10 ?_
    refine hg_getI d_M_placeBy_11 f_M_236 rfl rfl (hX.lt (n := 1) ⟨by decide, by decide⟩ rfl (by omega)) ?_
    refine hg_eq1 (y := nI (hs_p σ)) (hM.2.1) ?_
    refine hg_iload2 d_M_placeBy_14 ?_
    refine hg_iadd d_M_placeBy_15 ?_
    refine hg_eq1 (y := nI ((hs_p σ) + i)) (nI_add _ _) ?_
    refine hg_aload0 d_M_placeBy_16 ?_
    refine hg_getI d_M_placeBy_17 f_M_108 rfl rfl (hX.lt (n := 1) ⟨by decide, by decide⟩ rfl (by omega)) ?_
    refine hg_eq1 (y := nI (hs_n σ)) (hM.1) ?_
    refine hg_irem d_M_placeBy_20 (nI_ne0 (by omega) (by omega)) ?_
    refine hg_eq1 (y := nI (hs_pl σ i)) ((pk_rem (d := hs_n σ) (by omega) (by omega) (by omega)).trans (congrArg nI (hg_pl_mod hpp (by omega)))) ?_
    refine hg_istore3 d_M_placeBy_21 rfl ?_
    refine hg_iload1 d_M_placeBy_22 ?_
    refine hg_aload0 d_M_placeBy_23 ?_
    refine hg_getR d_M_placeBy_24 f_M_36 rfl rfl (hX.lt (n := 1) ⟨by decide, by decide⟩ rfl (by omega)) (hR.m (j := 9) (q := (22, 8)) rfl) ?_
    refine hg_iload3 d_M_placeBy_27 ?_
    refine hg_iald_n (j := (hs_pl σ i)) d_M_placeBy_28 rfl rfl (hX.lt (n := 28) ⟨by decide, by decide⟩ rfl (by omega)) (hX.jn (n := 6) (by decide) rfl (by omega)) ?_
    refine hg_eq1 (y := nI (hs_st σ (hs_pl σ i))) (hM.2.2.2.2.2.2.1 _ hpl) ?_
    refine hg_cSi d_M_placeBy_29 l_M_239 rfl (Nat.le_of_ble_eq_true rfl) (m_M_has (hs_mk_64 hn6) (show hs_st σ (hs_pl σ i) < 6 by omega)) rfl ?_
    rintro _ _ ⟨⟨hb, rfl⟩ | ⟨hb, rfl⟩, rfl⟩
    · have hI : hs_illb tw σ (hs_st σ (hs_pl σ i)) = true := by have e := hs_mk_bt (hs_illb tw σ) (hs_n σ) hn6 _ hsl; rw [e] at hb; exact hb
      refine hg_if_ne (tgt := 37) d_M_placeBy_32 (by decide) (fun h_4 => ?_) (fun h_4 => absurd (by decide) h_4)
      refine hg_iinc2 (v := nI (i + 1)) d_M_placeBy_37 rfl (nI_add _ _) ?_
      refine hg_goto (tgt := 2) d_M_placeBy_40 (by decide) ?_
      rw [show hs_hpA tw σ (k + 1) i = hs_hpA tw σ k (i + 1) from if_pos hI]; exact ih (i + 1) _ (by omega)
    · have hI : ¬ hs_illb tw σ (hs_st σ (hs_pl σ i)) = true := by have e := hs_mk_bt (hs_illb tw σ) (hs_n σ) hn6 _ hsl; rw [e] at hb; exact hb
      refine hg_if_ne (tgt := 37) d_M_placeBy_32 (by decide) (fun h_5 => absurd h_5 (by decide)) (fun h_5 => ?_)
      refine hg_iload3 d_M_placeBy_35 ?_
      refine hg_ireturn d_M_placeBy_36 rfl rfl ?_
      exact ⟨congrArg (hs_plv σ) (show some i = if hs_illb tw σ (hs_st σ (hs_pl σ i)) = true then _ else _ from (if_neg hI).symm), rfl⟩
theorem m_M_placeBy (hX : hg_XS T X) (hR : hg_SR T Rf) (hM : hs_MS σ I) (hO : hs_ok T σ) : hg_MC l E (d + 2) Y_M_placeBy 0 0 [.ref (hg_ad E 21 0), .int (nI (hs_mk (hs_illb tw σ) (hs_n σ)))] (I, Lg, Rf, X) (hg_i (fun v M' => v = hs_plv σ (hs_hp tw σ) ∧ M' = (I, Lg, Rf, X))) := by
  have hn6 := hO.1
  refine hg_mc k_M_placeBy (Nat.le_of_ble_eq_true rfl) ?_
  show hg_WP l E _ Y_M_placeBy 0 0 0 [some (.ref (hg_ad E 21 0)), some (.int (nI (hs_mk (hs_illb tw σ) (hs_n σ)))), none, none] [] (I, Lg, Rf, X) _
  refine hg_iconst (v := 0) d_M_placeBy_0 (by decide) ?_
  refine hg_istore2 d_M_placeBy_1 rfl ?_
  exact m_M_placeBy_loop hX hR hM hO _ 0 _ (Nat.zero_add _)

theorem m_M_host (hX : hg_XS T X) (hR : hg_SR T Rf) (hM : hs_MS σ I) (hO : hs_ok T σ) (hT : hs_MT T tw I) (hw : hs_wk σ ≤ 99999) : hg_MC l E (d + 7) Y_M_host 0 0 [.ref (hg_ad E 21 0)] (I, Lg, Rf, X) (hg_i (fun v M' => hm_A v (hs_h5 (hs_ho tw σ)) I Lg Rf X M')) := by
  have hn6 := hO.1
  refine hg_mc k_M_host (Nat.le_of_ble_eq_true rfl) ?_
  show hg_WP l E _ Y_M_host 0 0 0 [some (.ref (hg_ad E 21 0)), none] [] (I, Lg, Rf, X) _
  refine hg_aload0 d_M_host_0 ?_
  refine hg_aload0 d_M_host_1 ?_
  refine hg_cVi d_M_host_2 l_M_242 rfl rfl (hX.lt (n := 1) ⟨by decide, by decide⟩ rfl (by omega)) rfl (Nat.le_of_ble_eq_true rfl) (m_M_ills hX hR hM hO hT hw) rfl ?_
  rintro _ _ ⟨rfl, I2, rfl, hq2⟩
  refine hg_cVi d_M_host_5 l_M_245 rfl rfl (hX.lt (n := 1) ⟨by decide, by decide⟩ rfl (by omega)) rfl (Nat.le_of_ble_eq_true rfl) (m_M_placeBy (tw := tw) hX hR (hM.e hq2) hO) rfl ?_
  rintro _ _ ⟨rfl, rfl⟩
  rcases ei : hs_hp tw σ with _ | i
  · show hg_WP l E _ Y_M_host 0 0 8 [some (.ref (hg_ad E 21 0)), none] [.int (-5)] (I2, Lg, Rf, X) _
    refine hg_istore1 d_M_host_8 rfl ?_
    refine hg_iload1 d_M_host_9 ?_
    refine hg_bipush (v := (-5)) d_M_host_10 (by decide) ?_
    refine hg_icmp_ne (tgt := 20) d_M_host_12 (by decide) (fun h_1 => absurd h_1 (by decide)) (fun h_1 => ?_)
    refine hg_bipush (v := (-5)) d_M_host_15 (by decide) ?_
    refine hg_goto (tgt := 26) d_M_host_17 (by decide) ?_
    refine hg_ireturn d_M_host_26 rfl rfl ?_
    exact ⟨by unfold hs_ho; rw [ei]; rfl, I2, rfl, hq2⟩
  · show hg_WP l E _ Y_M_host 0 0 8 [some (.ref (hg_ad E 21 0)), none] [.int (nI (hs_pl σ i))] (I2, Lg, Rf, X) _
    have hi := hs_hp_lt ei
    have hpl : hs_pl σ i < hs_n σ := hg_pl_lt (by have := hO.2.1; omega) (by omega)
    refine hg_istore1 d_M_host_8 rfl ?_
    refine hg_iload1 d_M_host_9 ?_
    refine hg_bipush (v := (-5)) d_M_host_10 (by decide) ?_
    refine hg_icmp_ne (tgt := 20) d_M_host_12 (by decide) (fun h_2 => ?_) (fun h_2 => absurd (fun z => absurd z (by rw [show (-5 : Int32) = -nI 5 from rfl]; intro z; have := congrArg Int32.toInt z; rw [nI_toInt (by omega)] at this; exact absurd this (by rw [show (-nI 5 : Int32).toInt = -5 by decide]; omega))) h_2)
    refine hg_aload0 d_M_host_20 ?_
    refine hg_getR d_M_host_21 f_M_36 rfl rfl (hX.lt (n := 1) ⟨by decide, by decide⟩ rfl (by omega)) (hR.m (j := 9) (q := (22, 8)) rfl) ?_
    refine hg_iload1 d_M_host_24 ?_
    refine hg_iald_n (j := (hs_pl σ i)) d_M_host_25 rfl rfl (hX.lt (n := 28) ⟨by decide, by decide⟩ rfl (by omega)) (hX.jn (n := 6) (by decide) rfl (by omega)) ?_
    refine hg_eq1 (y := nI (hs_st σ (hs_pl σ i))) ((hM.e hq2).2.2.2.2.2.2.1 _ hpl) ?_
    refine hg_ireturn d_M_host_26 rfl rfl ?_
    exact ⟨by unfold hs_ho; rw [ei]; rfl, I2, rfl, hq2⟩

end M30
