/-! Reader: a TEST, F, T, E -/
theorem ps_stp (v a b : Nat) (hv : v < 100) (ha : a < 6) (hb : b < 8) : (64 * nI v + 8 * nI a + nI b : Int32) = nI (64 * v + 8 * a + b) := by
  show nI 64 * nI v + nI 8 * nI a + nI b = _
  rw [pk_mul, pk_mul, nI_add, nI_add]
theorem hc_st_tst (f : Nat → Int32) (m : Nat) (s : Int32) (v a b : Nat) (hv : v < 100) (ha : a < 6) (hb : b < 3) (hm : 2 * m < 2 ^ 31) : hc_st f (s, nI m) (nI (64 * v + 8 * a + b)) = (s, nI (2 * m + nb (ps_cmp b (f a) (nI v)))) := by
  have e1 : nI (64 * v + 8 * a + b) &&& 7 = nI b := by rw [pk_andN (by omega) 3 (by decide)]; congr 1; omega
  have e2 : (nI (64 * v + 8 * a + b) >>> ((3 : Int32) &&& 31)) &&& 7 = nI a := by rw [show (3 : Int32) &&& 31 = 3 by decide, pk_shrN (by omega) 3 3 (by decide), pk_andN (by omega) 3 (by decide)]; congr 1; omega
  have e3 : nI (64 * v + 8 * a + b) >>> ((6 : Int32) &&& 31) = nI v := by rw [show (6 : Int32) &&& 31 = 6 by decide, pk_shrN (by omega) 6 6 (by decide)]; congr 1; omega
  rw [← nb_push m _ (by omega)]
  unfold hc_st
  simp only [e1, e2, e3, nI_clamp (show a < 2 ^ 31 by omega)]
  have h3 : b = 0 ∨ b = 1 ∨ b = 2 := by omega
  rcases h3 with rfl | rfl | rfl
  · rw [if_pos (show nI 0 = 0 by decide)]; simp [ps_cmp]
  · rw [if_neg (by decide), if_pos (by decide)]; simp [ps_cmp]
  · rw [if_neg (by decide), if_neg (by decide), if_pos (by decide)]; simp [ps_cmp]
theorem hg_fc_or (t : Nat) (c : Int32) : ∀ (k j : Nat), hg_fc t c k j = -1 ∨ ∃ i, i < j + k ∧ hg_fc t c k j = nI i
  | 0, j => Or.inl rfl
  | k + 1, j => by
    unfold hg_fc
    split
    · exact Or.inr ⟨j, by omega, rfl⟩
    · rcases hg_fc_or t c k (j + 1) with h | ⟨i, h1, h2⟩
      · exact Or.inl h
      · exact Or.inr ⟨i, by omega, h2⟩
theorem ps_ix_no {n p t : Nat} {L : Nat → Int32} (h : p < n → hg_fc t (L p) (hg_sz t) 0 = -1) : ps_ix n L t p = none := by
  unfold ps_ix
  split
  · rename_i z; rw [h z]; exact hs_ix_n (fun ⟨j, hj, e⟩ => absurd e (by
      intro e
      have : (-1 : Int32).toInt = (nI j).toInt := congrArg _ e
      by_cases hz : j < 2 ^ 31
      · rw [nI_toInt hz] at this; exact absurd this (by show ¬ (-1 : Int) = j; omega)
      · have hl : hg_sz t ≤ 6 := by
          by_cases ht : t < 5
          · exact hg_sz_le t ht
          · unfold hg_sz hg_sn; rw [List.getD_eq_getElem?_getD, List.getElem?_eq_none (by simp; omega)]; decide
        omega))
  · rfl
section M18
variable {l : Launch} {E : hg_E} {d T : Nat}
variable {I : Nat → Nat → Nat → Int32} {Lg : Nat → Nat → Nat → Int64} {Rf : Nat → Nat → Nat → Option (Nat × Nat)} {X : Nat × (Nat → Nat) × (Nat → Nat → Nat)}
variable {n : Nat} {L : Nat → Int32} {I1 I2 I' : Nat → Nat → Nat → Int32}
theorem ps_nm_v {p : Nat} (hx : ps_X n L I) : (ps_nm n L p).2.2 < 100 := by
  have hd : ∀ q, ps_dg n L q = true → ps_d L q ≤ 9 := fun q h => by
    obtain ⟨h1, h2, h3⟩ := ps_dg_t h
    obtain ⟨c, hc, ec⟩ := hx.2.2.2 q h1
    unfold ps_d
    rw [ec] at h2 h3 ⊢
    rw [nI_clamp (by omega)]
    have := (nI_leI (b := 57) (by omega) (by decide)).mp h3
    omega
  unfold ps_nm
  split
  · rename_i h; have := hd _ h
    split
    · rename_i h'; have := hd _ h'; show 10 * ps_d L p + ps_d L (p + 1) < 100; omega
    · show ps_d L p < 100; omega
  · exact Nat.zero_lt_succ 99
theorem m_R_test {p w : Nat} (hX : hg_XS T X) (hR : hg_SR T Rf) (hx : ps_X n L I) (hp : I 10 0 2 = nI p) (hpn : p ≤ n) (hw : I 10 0 4 = nI w) (hwp : w ≤ p) : hg_MC l E (d + 5) Y_R_test 0 0 [.ref (hg_ad E 10 0)] (I, Lg, Rf, X) (hg_i (fun v M' => ∃ I' : Nat → Nat → Nat → Int32, M' = (I', Lg, Rf, X) ∧ ps_P 1 w p (ps_test n L p) I I' v)) := by
  have hn100 := hx.2.2.1
  refine hg_mc k_R_test (Nat.le_of_ble_eq_true rfl) ?_
  show hg_WP l E _ Y_R_test 0 0 0 [some (.ref (hg_ad E 10 0)), none, none] [] (I, Lg, Rf, X) _
  refine hg_aload0 d_R_test_0 ?_
  refine hg_getI d_R_test_1 f_R_23 rfl rfl (hX.lt (n := 1) ⟨by decide, by decide⟩ rfl (by omega)) ?_
  refine hg_eq1 (y := nI p) (hp) ?_
  refine hg_aload0 d_R_test_4 ?_
  refine hg_getI d_R_test_5 f_R_19 rfl rfl (hX.lt (n := 1) ⟨by decide, by decide⟩ rfl (by omega)) ?_
  refine hg_eq1 (y := nI n) (hx.1) ?_
  refine hg_icmp_ge (tgt := 29) d_R_test_8 (by decide) (fun h1 => ?_) (fun h1 => ?_)
  · have hge : n ≤ p := (nI_leI (by omega) (by omega)).mp h1
    refine hg_iconst (v := (-1)) d_R_test_29 (by decide) ?_
    refine hg_istore1 d_R_test_30 rfl ?_
    refine hg_iload1 d_R_test_31 ?_
    refine hg_if_ge (tgt := 37) d_R_test_32 (by decide) (fun h_1 => absurd h_1 (by decide)) (fun h_1 => ?_)
    refine hg_iconst (v := 0) d_R_test_35 (by decide) ?_
    refine hg_ireturn d_R_test_36 rfl (by decide) ?_
    have hAn : ps_ix n L 3 p = none := ps_ix_no (fun z => absurd z (by omega))
    refine ⟨I, rfl, ?_, ?_, hg_fd.rf, rfl, fun j _ => rfl, w, Nat.le_refl _, by omega, hw, fun z => ?_⟩
    · simp [ps_test, hAn]
    · simp [ps_test, hAn, hp]
    · exact absurd z (by simp [ps_test, hAn])
  · have hlt : p < n := Nat.lt_of_not_le (fun z => h1 ((nI_leI (by omega) (by omega)).mpr z))
    obtain ⟨c, hc, ec⟩ := hx.2.2.2 p hlt
    refine hg_ldcS (i := 3) (tx := "pkvodw") d_R_test_11 (by decide +kernel) ?_
    refine hg_aload0 d_R_test_13 ?_
    refine hg_getR d_R_test_14 f_R_11 rfl rfl (hX.lt (n := 1) ⟨by decide, by decide⟩ rfl (by omega)) hR.r0 ?_
    refine hg_aload0 d_R_test_17 ?_
    refine hg_getI d_R_test_18 f_R_23 rfl rfl (hX.lt (n := 1) ⟨by decide, by decide⟩ rfl (by omega)) ?_
    refine hg_eq1 (y := nI p) (hp) ?_
    refine hg_bald_n (j := p) d_R_test_21 rfl rfl (hX.lt (n := 1) ⟨by decide, by decide⟩ rfl (by omega)) (hX.jn (n := 100) (by decide) rfl (by omega)) ?_
    refine hg_eq1 (y := nI c) ((hx.2.1 p hlt).trans ec) ?_
    refine hg_i2c d_R_test_22 ?_
    refine hg_eq1 (y := nI c) (nI_char hc) ?_
    refine hg_cQi d_R_test_23 l_R_79 (by decide) rfl rfl (Nat.le_of_ble_eq_true rfl) (m_JS_indexOf (t := 3) (c := c) (by decide) hc) rfl ?_
    rintro _ _ ⟨rfl, rfl⟩
    rcases hg_fc_or 3 (nI c) (hg_sz 3) 0 with hz | ⟨a, ha, hz⟩
    · rw [hz]
      have hAn : ps_ix n L 3 p = none := ps_ix_no (fun _ => by rw [ec]; exact hz)
      refine hg_goto (tgt := 30) d_R_test_26 (by decide) ?_
      refine hg_istore1 d_R_test_30 rfl ?_
      refine hg_iload1 d_R_test_31 ?_
      refine hg_if_ge (tgt := 37) d_R_test_32 (by decide) (fun h_2 => absurd h_2 (by decide)) (fun h_2 => ?_)
      refine hg_iconst (v := 0) d_R_test_35 (by decide) ?_
      refine hg_ireturn d_R_test_36 rfl (by decide) ?_
      refine ⟨I, rfl, ?_, ?_, hg_fd.rf, rfl, fun j _ => rfl, w, Nat.le_refl _, by omega, hw, fun z => ?_⟩
      · simp [ps_test, hAn]
      · simp [ps_test, hAn, hp]
      · exact absurd z (by simp [ps_test, hAn])
    · rw [hz]
      have hak : a < hg_sz 3 := by omega
      have hAs : ps_ix n L 3 p = some a := by unfold ps_ix; rw [if_pos (by omega), ec, hz]; exact hs_ix_s hak (by decide)
      refine hg_goto (tgt := 30) d_R_test_26 (by decide) ?_
      refine hg_istore1 d_R_test_30 rfl ?_
      refine hg_iload1 d_R_test_31 ?_
      refine hg_if_ge (tgt := 37) d_R_test_32 (by decide) (fun h_3 => ?_) (fun h_3 => absurd (nI_pos' (by have := hg_sz_le 3 (by decide); omega)) h_3)
      refine hg_aload0 d_R_test_37 ?_
      refine hg_dup d_R_test_38 rfl ?_
      refine hg_getI d_R_test_39 f_R_23 rfl rfl (hX.lt (n := 1) ⟨by decide, by decide⟩ rfl (by omega)) ?_
      refine hg_eq1 (y := nI p) (hp) ?_
      refine hg_iconst (v := 1) d_R_test_42 (by decide) ?_
      refine hg_iadd d_R_test_43 ?_
      refine hg_eq1 (y := nI (p + 1)) (nI_add _ _) ?_
      refine hg_putI d_R_test_44 f_R_23 rfl rfl (Or.inl rfl) rfl rfl (hX.lt (n := 1) ⟨by decide, by decide⟩ rfl (by omega)) ?_
      refine hg_aload0 d_R_test_47 ?_
      refine hg_getI d_R_test_48 f_R_23 rfl rfl (hX.lt (n := 1) ⟨by decide, by decide⟩ rfl (by omega)) ?_
      refine hg_eq1 (y := nI (p + 1)) (by simp [hg_u3]) ?_
      refine hg_aload0 d_R_test_51 ?_
      refine hg_getI d_R_test_52 f_R_19 rfl rfl (hX.lt (n := 1) ⟨by decide, by decide⟩ rfl (by omega)) ?_
      refine hg_eq1 (y := I 10 0 1) (by simp [hg_u3]) ?_
      refine hg_eq1 (y := nI n) (hx.1) ?_
      refine hg_icmp_ge (tgt := 76) d_R_test_55 (by decide) (fun h2 => ?_) (fun h2 => ?_)
      · have hge : n ≤ p + 1 := (nI_leI (by omega) (by omega)).mp h2
        refine hg_iconst (v := (-1)) d_R_test_76 (by decide) ?_
        refine hg_istore2 d_R_test_77 rfl ?_
        refine hg_iload2 d_R_test_78 ?_
        refine hg_if_ge (tgt := 84) d_R_test_79 (by decide) (fun h_4 => absurd h_4 (by decide)) (fun h_4 => ?_)
        refine hg_iconst (v := 0) d_R_test_82 (by decide) ?_
        refine hg_ireturn d_R_test_83 rfl (by decide) ?_
        have hBn : ps_ix n L 4 (p + 1) = none := ps_ix_no (fun z => absurd z (by omega))
        refine ⟨_, rfl, ?_, ?_, hg_fd.rf.u (by decide), by simp [hg_u3], fun j _ => by simp [hg_u3], w, Nat.le_refl _, by omega, by simp [hg_u3, hw], fun z => ?_⟩
        · simp [ps_test, hAs, hBn]
        · simp [ps_test, hAs, hBn, hg_u3]
        · exact absurd z (by simp [ps_test, hAs, hBn])
      · have hlt2 : p + 1 < n := Nat.lt_of_not_le (fun z => h2 ((nI_leI (by omega) (by omega)).mpr z))
        obtain ⟨c2, hc2, ec2⟩ := hx.2.2.2 (p + 1) hlt2
        refine hg_ldcS (i := 4) (tx := "<=>") d_R_test_58 (by decide +kernel) ?_
        refine hg_aload0 d_R_test_60 ?_
        refine hg_getR d_R_test_61 f_R_11 rfl rfl (hX.lt (n := 1) ⟨by decide, by decide⟩ rfl (by omega)) hR.r0 ?_
        refine hg_aload0 d_R_test_64 ?_
        refine hg_getI d_R_test_65 f_R_23 rfl rfl (hX.lt (n := 1) ⟨by decide, by decide⟩ rfl (by omega)) ?_
        refine hg_eq1 (y := nI (p + 1)) (by simp [hg_u3]) ?_
        refine hg_bald_n (j := (p + 1)) d_R_test_68 rfl rfl (hX.lt (n := 1) ⟨by decide, by decide⟩ rfl (by omega)) (hX.jn (n := 100) (by decide) rfl (by omega)) ?_
        refine hg_eq1 (y := I 11 0 (p + 1)) (by simp [hg_u3]) ?_
        refine hg_eq1 (y := nI c2) ((hx.2.1 (p + 1) hlt2).trans ec2) ?_
        refine hg_i2c d_R_test_69 ?_
        refine hg_eq1 (y := nI c2) (nI_char hc2) ?_
        refine hg_cQi d_R_test_70 l_R_79 (by decide) rfl rfl (Nat.le_of_ble_eq_true rfl) (m_JS_indexOf (t := 4) (c := c2) (by decide) hc2) rfl ?_
        rintro _ _ ⟨rfl, rfl⟩
        rcases hg_fc_or 4 (nI c2) (hg_sz 4) 0 with hz | ⟨b, hb, hz⟩
        · rw [hz]
          have hBn : ps_ix n L 4 (p + 1) = none := ps_ix_no (fun _ => by rw [ec2]; exact hz)
          refine hg_goto (tgt := 77) d_R_test_73 (by decide) ?_
          refine hg_istore2 d_R_test_77 rfl ?_
          refine hg_iload2 d_R_test_78 ?_
          refine hg_if_ge (tgt := 84) d_R_test_79 (by decide) (fun h_5 => absurd h_5 (by decide)) (fun h_5 => ?_)
          refine hg_iconst (v := 0) d_R_test_82 (by decide) ?_
          refine hg_ireturn d_R_test_83 rfl (by decide) ?_
          refine ⟨_, rfl, ?_, ?_, hg_fd.rf.u (by decide), by simp [hg_u3], fun j _ => by simp [hg_u3], w, Nat.le_refl _, by omega, by simp [hg_u3, hw], fun z => ?_⟩
          · simp [ps_test, hAs, hBn]
          · simp [ps_test, hAs, hBn, hg_u3]
          · exact absurd z (by simp [ps_test, hAs, hBn])
        · rw [hz]
          have hbk : b < hg_sz 4 := by omega
          have hBs : ps_ix n L 4 (p + 1) = some b := by unfold ps_ix; rw [if_pos (by omega), ec2, hz]; exact hs_ix_s hbk (by decide)
          refine hg_goto (tgt := 77) d_R_test_73 (by decide) ?_
          refine hg_istore2 d_R_test_77 rfl ?_
          refine hg_iload2 d_R_test_78 ?_
          refine hg_if_ge (tgt := 84) d_R_test_79 (by decide) (fun h_6 => ?_) (fun h_6 => absurd (nI_pos' (by have := hg_sz_le 4 (by decide); omega)) h_6)
          refine hg_aload0 d_R_test_84 ?_
          refine hg_dup d_R_test_85 rfl ?_
          refine hg_getI d_R_test_86 f_R_23 rfl rfl (hX.lt (n := 1) ⟨by decide, by decide⟩ rfl (by omega)) ?_
          refine hg_eq1 (y := nI (p + 1)) (by simp [hg_u3]) ?_
          refine hg_iconst (v := 1) d_R_test_89 (by decide) ?_
          refine hg_iadd d_R_test_90 ?_
          refine hg_eq1 (y := nI ((p + 1) + 1)) (nI_add _ _) ?_
          refine hg_putI d_R_test_91 f_R_23 rfl rfl (Or.inl rfl) rfl rfl (hX.lt (n := 1) ⟨by decide, by decide⟩ rfl (by omega)) ?_
          refine hg_aload0 d_R_test_94 ?_
          have hfd : hg_fd (hg_u3 (hg_u3 I 10 0 2 (nI (p + 1))) 10 0 2 (nI ((p + 1) + 1))) I := (hg_fd.rf.u (by decide)).u (by decide)
          refine hg_cVi d_R_test_95 l_R_51 rfl rfl (hX.lt (n := 1) ⟨by decide, by decide⟩ rfl (by omega)) rfl (Nat.le_of_ble_eq_true rfl) (m_R_number (n := n) (L := L) (p := p + 1 + 1) hX hR (hx.fd hfd) (by simp [hg_u3]) (by omega)) rfl ?_
          rintro _ _ ⟨I2, rfl, rfl, hq2, hq5, hk2, hj2⟩
          have hle := ps_nm_le (L := L) (p := p + 1 + 1) (show p + 1 + 1 ≤ n by omega)
          have hfd2 : hg_fd I2 I := hg_fd.tr ⟨fun k a _ => hk2 k a, hj2 1 (by decide) (by decide)⟩ hfd
          have h64 : I2 10 0 6 = I 10 0 6 ∧ I2 10 0 4 = I 10 0 4 := ⟨(hj2 6 (by decide) (by decide)).trans (by simp [hg_u3]), (hj2 4 (by decide) (by decide)).trans (by simp [hg_u3])⟩
          have h12 : ∀ j, I2 12 0 j = I 12 0 j := fun j => by rw [hk2 12 (by decide)]; simp [hg_u3]
          by_cases hu : (ps_nm n L (p + 1 + 1)).1 = true
          · rw [if_pos hu]
            refine hg_if_ne (tgt := 103) d_R_test_98 (by decide) (fun h_7 => ?_) (fun h_7 => absurd (by decide) h_7)
            refine hg_aload0 d_R_test_103 ?_
            refine hg_aload0 d_R_test_104 ?_
            refine hg_getI d_R_test_105 f_R_54 rfl rfl (hX.lt (n := 1) ⟨by decide, by decide⟩ rfl (by omega)) ?_
            refine hg_eq1 (y := nI (ps_nm n L (p + 1 + 1)).2.2) (hq5) ?_
            refine hg_iload1 d_R_test_108 ?_
            refine hg_iload2 d_R_test_109 ?_
            refine hg_cVv d_R_test_110 l_R_64 rfl rfl (hX.lt (n := 1) ⟨by decide, by decide⟩ rfl (by omega)) rfl (Nat.le_of_ble_eq_true rfl) (m_R_write (w := w) hX hR (h64.2.trans hw) (by omega)) rfl ?_
            rintro _ (hwr | hwr)
            · obtain ⟨he, -⟩ := hwr; omega
            · obtain ⟨-, rfl⟩ := hwr
              refine hg_iconst (v := 1) d_R_test_113 (by decide) ?_
              refine hg_ireturn d_R_test_114 rfl (by decide) ?_
              have hv100 := ps_nm_v (p := p + 1 + 1) hx
              have hn1 := hle.2.2 hu
              have hA6 : a < 6 := hak
              have hB3 : b < 3 := hbk
              refine ⟨_, rfl, ?_, ?_, (hfd2.v).u (by decide), by simp [hg_u3, h64.1], fun j hj => ?_, w + 1, by omega, by omega, by simp [hg_u3], fun _ => ⟨?_, ?_⟩⟩
              · simp [ps_test, hAs, hBs, hu]
              · rw [show (ps_test n L p).2.1 = (ps_nm n L (p + 1 + 1)).2.1 by simp [ps_test, hAs, hBs], ← hq2]; simp [hg_u3]
              · rw [← h12 j]; simp [hg_u3]; omega
              · rw [show (ps_test n L p).2.1 = (ps_nm n L (p + 1 + 1)).2.1 by simp [ps_test, hAs, hBs]]; omega
              · intro f D m s hm hD
                have hp2 : 2 ^ D ≤ 2 ^ 28 := Nat.pow_le_pow_right (by decide) (by omega)
                rw [show w + 1 - w = 1 by omega]
                show hc_st f (s, nI m) _ = _
                rw [show (hg_u3 (hg_u3 I2 12 0 w (64 * nI (ps_nm n L (p + 1 + 1)).2.2 + 8 * nI a + nI b)) 10 0 4 (nI (w + 1))) 12 0 w = nI (64 * (ps_nm n L (p + 1 + 1)).2.2 + 8 * a + b) from by rw [← ps_stp _ _ _ hv100 hA6 (by omega)]; simp [hg_u3]]
                rw [hc_st_tst f m s _ a b hv100 hA6 hB3 (by omega)]
                simp [ps_test, hAs, hBs, hs_N, hA6]
          · rw [if_neg hu]
            refine hg_if_ne (tgt := 103) d_R_test_98 (by decide) (fun h_8 => absurd h_8 (by decide)) (fun h_8 => ?_)
            refine hg_iconst (v := 0) d_R_test_101 (by decide) ?_
            refine hg_ireturn d_R_test_102 rfl (by decide) ?_
            refine ⟨_, rfl, ?_, ?_, hfd2, h64.1, fun j _ => h12 j, w, Nat.le_refl _, by omega, h64.2.trans hw, fun z => ?_⟩
            · simp [ps_test, hAs, hBs, hu]
            · rw [show (ps_test n L p).2.1 = (ps_nm n L (p + 1 + 1)).2.1 by simp [ps_test, hAs, hBs]]; exact hq2
            · exact absurd z (by simp [ps_test, hAs, hBs, hu])

end M18
