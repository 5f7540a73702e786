/-! Reader: a CLAUSE -/
def ps_Q (n w p : Nat) (g : (Nat → Int32) → Int32) (c : ps_C) (I I' : Nat → Nat → Nat → Int32) (v : Int32) : Prop := v = (if c.1 = true then 1 else 0) ∧ I' 10 0 2 = nI c.2.1 ∧ hg_fd I' I ∧ (∀ j, j < w → I' 12 0 j = I 12 0 j) ∧ I' 10 0 6 = c.2.2.2 ∧ (p ≤ c.2.1 ∧ c.2.1 ≤ n) ∧ ∃ w', w ≤ w' ∧ w' ≤ 100 ∧ I' 10 0 4 = nI w' ∧ (c.1 = true → w' - w ≤ c.2.1 - p ∧ ∀ f, hc_ev (I' 12 0) f (g (hs_N f), 0) w (w' - w) = (c.2.2.1 (hs_N f), 0))
theorem ps_wd_ge {n : Nat} {L : Nat → Int32} {t : Nat} : ∀ (k j p : Nat), p ≤ (ps_wd n L t k j p).2
  | 0, _, p => Nat.le_refl _
  | k + 1, j, p => by
    unfold ps_wd
    split
    · exact Nat.le_trans (Nat.le_succ _) (ps_wd_ge k (j + 1) (p + 1))
    · exact Nat.le_refl _
theorem hc_st_fe (f : Nat → Int32) (s : Int32) (b : Bool) (v : Nat) (hv : v < 100) (sg : Bool) : hc_st f (s, nI (2 * 0 + nb b)) (64 * nI v + 8 * 0 + (if sg = true then 6 else 7)) = (s + (if b = true then (if sg = true then nI v else -nI v) else 0), 0) := by
  have e0 : (64 * nI v + 8 * 0 + (if sg = true then 6 else 7) : Int32) = nI (64 * v + 8 * 0 + (if sg = true then 6 else 7)) := by
    rw [← ps_stp v 0 _ hv (by decide) (by cases sg <;> decide)]; cases sg <;> rfl
  rw [e0]
  have e1 : nI (64 * v + 8 * 0 + (if sg = true then 6 else 7)) &&& 7 = nI (if sg = true then 6 else 7) := by rw [pk_andN (by split <;> omega) 3 (by decide)]; congr 1; split <;> omega
  have e3 : nI (64 * v + 8 * 0 + (if sg = true then 6 else 7)) >>> ((6 : Int32) &&& 31) = nI v := by rw [show (6 : Int32) &&& 31 = 6 by decide, pk_shrN (by split <;> omega) 6 6 (by decide)]; congr 1; split <;> omega
  unfold hc_st
  simp only [e1, e3]
  cases sg
  · rw [if_neg (by decide), if_neg (by decide), if_neg (by decide), if_neg (by decide), if_neg (by decide), if_neg (by decide), if_neg (by decide)]
    cases b
    · show (s - nI 0 * nI v, (0 : Int32)) = (s + 0, 0)
      rw [pk_mul, Nat.zero_mul, show nI 0 = 0 from rfl, Int32.sub_zero, Int32.add_zero]
    · show (s - nI 1 * nI v, (0 : Int32)) = (s + -nI v, 0)
      rw [pk_mul, Nat.one_mul, Int32.sub_eq_add_neg]
  · rw [if_neg (by decide), if_neg (by decide), if_neg (by decide), if_neg (by decide), if_neg (by decide), if_neg (by decide), if_pos (by decide)]
    cases b
    · show (s + nI 0 * nI v, (0 : Int32)) = (s + 0, 0)
      rw [pk_mul, Nat.zero_mul]; rfl
    · show (s + nI 1 * nI v, (0 : Int32)) = (s + nI v, 0)
      rw [pk_mul, Nat.one_mul]
section M20
variable {l : Launch} {E : hg_E} {d T : Nat}
variable {I : Nat → Nat → Nat → Int32} {Lg : Nat → Nat → Nat → Int64} {Rf : Nat → Nat → Nat → Option (Nat × Nat)} {X : Nat × (Nat → Nat) × (Nat → Nat → Nat)}
variable {n : Nat} {L : Nat → Int32} {I1 I2 I' : Nat → Nat → Nat → Int32}
theorem m_R_clause {p w : Nat} {g : (Nat → Int32) → Int32} {i : Int32} (hX : hg_XS T X) (hR : hg_SR T Rf) (hx : ps_X n L I) (hp : I 10 0 2 = nI p) (hpn : p ≤ n) (hw : I 10 0 4 = nI w) (hwp : w ≤ p) (hi : I 10 0 6 = i) : hg_MC l E (d + 21) Y_R_clause 0 0 [.ref (hg_ad E 10 0)] (I, Lg, Rf, X) (hg_i (fun v M' => ∃ I' : Nat → Nat → Nat → Int32, M' = (I', Lg, Rf, X) ∧ ps_Q n w p g (ps_cl n L p g i) I I' v)) := by
  have hn100 := hx.2.2.1
  refine hg_mc k_R_clause (Nat.le_of_ble_eq_true rfl) ?_
  show hg_WP l E _ Y_R_clause 0 0 0 [some (.ref (hg_ad E 10 0)), none, none, none] [] (I, Lg, Rf, X) _
  refine hg_aload0 d_R_clause_0 ?_
  refine hg_getI d_R_clause_1 f_R_23 rfl rfl (hX.lt (n := 1) ⟨by decide, by decide⟩ rfl (by omega)) ?_
  refine hg_eq1 (y := nI p) (hp) ?_
  refine hg_aload0 d_R_clause_4 ?_
  refine hg_getI d_R_clause_5 f_R_19 rfl rfl (hX.lt (n := 1) ⟨by decide, by decide⟩ rfl (by omega)) ?_
  refine hg_eq1 (y := nI n) (hx.1) ?_
  refine hg_icmp_ge (tgt := 24) d_R_clause_8 (by decide) (fun h1 => ?_) (fun h1 => ?_)
  · have hge : n ≤ p := (nI_leI (by omega) (by omega)).mp h1
    have hs105 : ps_sg n L p 105 = false := ps_sg_f (fun z => absurd z.1 (by omega))
    have hs102 : ps_sg n L p 102 = false := ps_sg_f (fun z => absurd z.1 (by omega))
    refine hg_iconst (v := 0) d_R_clause_24 (by decide) ?_
    refine hg_istore1 d_R_clause_25 rfl ?_
    refine hg_iload1 d_R_clause_26 ?_
    refine hg_bipush (v := 105) d_R_clause_27 (by decide) ?_
    refine hg_icmp_ne (tgt := 60) d_R_clause_29 (by decide) (fun h105 => ?_) (fun h105 => absurd (by decide) h105)
    refine hg_iload1 d_R_clause_60 ?_
    refine hg_bipush (v := 102) d_R_clause_61 (by decide) ?_
    refine hg_icmp_ne (tgt := 70) d_R_clause_63 (by decide) (fun h102 => ?_) (fun h102 => absurd (by decide) h102)
    refine hg_iconst (v := 0) d_R_clause_70 (by decide) ?_
    refine hg_istore2 d_R_clause_71 rfl ?_
    refine hg_aload0 d_R_clause_72 ?_
    refine hg_iload2 d_R_clause_73 ?_
    refine hg_if_eq (tgt := 82) d_R_clause_74 (by decide) (fun h_1 => ?_) (fun h_1 => absurd (by decide) h_1)
    refine hg_ldcS (i := 2) (tx := "ease ") d_R_clause_82 (by decide +kernel) ?_
    refine hg_cVi d_R_clause_84 l_R_47 rfl rfl (hX.lt (n := 1) ⟨by decide, by decide⟩ rfl (by omega)) rfl (Nat.le_of_ble_eq_true rfl) (m_R_word (n := n) (L := L) (t := 2) (p := p) (by decide) hX hR hx hp hpn) rfl ?_
    rintro _ _ ⟨I2, rfl, rfl, hq2, hqn, hk2, hj2⟩
    rw [show hg_sz 2 = 5 from rfl] at hq2 hqn ⊢
    have hwge : p ≤ (ps_wd n L 2 5 0 p).2 := ps_wd_ge 5 0 p
    have hf2 : hg_fd I2 I := ⟨fun k a _ => hk2 k a, hj2 1 (by decide)⟩
    by_cases hW : (ps_wd n L 2 5 0 p).1 = true
    · rw [if_pos hW]
      refine hg_if_eq (tgt := 97) d_R_clause_87 (by decide) (fun h_2 => absurd h_2 (by decide)) (fun h_2 => ?_)
      refine hg_aload0 d_R_clause_90 ?_
      refine hg_cVi d_R_clause_91 l_R_51 rfl rfl (hX.lt (n := 1) ⟨by decide, by decide⟩ rfl (by omega)) rfl (Nat.le_of_ble_eq_true rfl) (m_R_number (n := n) (L := L) (p := (ps_wd n L 2 5 0 p).2) hX hR (hx.fd hf2) hq2 hqn) rfl ?_
      rintro _ _ ⟨I3, rfl, rfl, hq3, hq5, hk3, hj3⟩
      have hle := ps_nm_le (L := L) hqn
      have hv100 := ps_nm_v (p := (ps_wd n L 2 5 0 p).2) hx
      have hf3 : hg_fd I3 I := hg_fd.tr ⟨fun k a _ => hk3 k a, hj3 1 (by decide) (by decide)⟩ hf2
      have h64 : I3 10 0 6 = I 10 0 6 ∧ I3 10 0 4 = I 10 0 4 := ⟨(hj3 6 (by decide) (by decide)).trans (hj2 6 (by decide)), (hj3 4 (by decide) (by decide)).trans (hj2 4 (by decide))⟩
      have h12 : I3 12 = I 12 := (hk3 12 (by decide)).trans (hk2 12 (by decide))
      have hx3 := hx.fd hf3
      by_cases hN : (ps_nm n L (ps_wd n L 2 5 0 p).2).1 = true
      · rw [if_pos hN]
        refine hg_if_ne (tgt := 99) d_R_clause_94 (by decide) (fun h_3 => ?_) (fun h_3 => absurd (by decide) h_3)
        refine hg_aload0 d_R_clause_99 ?_
        refine hg_getI d_R_clause_100 f_R_54 rfl rfl (hX.lt (n := 1) ⟨by decide, by decide⟩ rfl (by omega)) ?_
        refine hg_eq1 (y := nI (ps_nm n L (ps_wd n L 2 5 0 p).2).2.2) (hq5) ?_
        refine hg_istore3 d_R_clause_103 rfl ?_
        refine hg_aload0 d_R_clause_104 ?_
        refine hg_bipush (v := 32) d_R_clause_105 (by decide) ?_
        refine hg_cVi d_R_clause_107 l_R_36 rfl rfl (hX.lt (n := 1) ⟨by decide, by decide⟩ rfl (by omega)) rfl (Nat.le_of_ble_eq_true rfl) (m_R_sign (n := n) (L := L) (p := (ps_nm n L (ps_wd n L 2 5 0 p).2).2.1) hX hR hx3 hq3 hle.2.1) rfl ?_
        rintro _ _ (hsp | hsp)
        · obtain ⟨hsp, rfl, rfl⟩ := hsp
          refine hg_if_eq (tgt := 121) d_R_clause_110 (by decide) (fun h_4 => absurd h_4 (by decide)) (fun h_4 => ?_)
          refine hg_aload0 d_R_clause_113 ?_
          refine hg_iconst (v := 0) d_R_clause_114 (by decide) ?_
          have hlt3 := (ps_sg_t hsp).1
          have hE := m_R_E (l := l) (E := E) (T := T) (m_R_factor (n := n) (L := L) 4 (by decide)) (ps_F_ok n L 4) (by decide)
          obtain ⟨e1, e2, e3⟩ := ps_E_ok (L := L) (ps_F_ok n L 4) ((ps_nm n L (ps_wd n L 2 5 0 p).2).2.1 + 1) (by omega)
          refine hg_cVi d_R_clause_115 l_R_60 rfl rfl (hX.lt (n := 1) ⟨by decide, by decide⟩ rfl (by omega)) rfl (Nat.le_of_ble_eq_true rfl) (hE _ (hg_u3 I3 10 0 2 (nI ((ps_nm n L (ps_wd n L 2 5 0 p).2).2.1 + 1))) Lg Rf X ((ps_nm n L (ps_wd n L 2 5 0 p).2).2.1 + 1) w (by omega) hX hR (hx3.fd (hg_fd.rf.u (by decide))) (by simp [hg_u3]) (by omega) (by simp [hg_u3, h64.2, hw]) (by omega)) rfl ?_
          rintro v _ ⟨I4, rfl, hP4⟩
          obtain ⟨c1, c2, c3, c4, c5, w2, c6, c7, c8, c9⟩ := hP4
          have hf4 : hg_fd I4 I := c3.tr (hf3.u (by decide))
          have h64b : I4 10 0 6 = I 10 0 6 := c4.trans ((by simp [hg_u3] : _ = I3 10 0 6).trans h64.1)
          have hpr4 : ∀ j, j < w → I4 12 0 j = I 12 0 j := fun j hj => (c5 j hj).trans ((by simp [hg_u3] : _ = I3 12 0 j).trans (by rw [h12]))
          by_cases hu : (ps_E n L (ps_F n L 4) ((ps_nm n L (ps_wd n L 2 5 0 p).2).2.1 + 1)).1 = true
          · rw [if_pos hu] at c1
            subst c1
            refine hg_if_ne (tgt := 123) d_R_clause_118 (by decide) (fun h_5 => ?_) (fun h_5 => absurd (by decide) h_5)
            refine hg_aload0 d_R_clause_123 ?_
            refine hg_iload3 d_R_clause_124 ?_
            refine hg_iconst (v := 0) d_R_clause_125 (by decide) ?_
            refine hg_iload2 d_R_clause_126 ?_
            refine hg_if_eq (tgt := 135) d_R_clause_127 (by decide) (fun h_6 => ?_) (fun h_6 => absurd (by decide) h_6)
            refine hg_bipush (v := 7) d_R_clause_135 (by decide) ?_
            obtain ⟨d1, d2⟩ := c9 hu
            refine hg_cVv d_R_clause_137 l_R_64 rfl rfl (hX.lt (n := 1) ⟨by decide, by decide⟩ rfl (by omega)) rfl (Nat.le_of_ble_eq_true rfl) (m_R_write (w := w2) hX hR c8 c7) rfl ?_
            rintro _ (hwr | hwr)
            · obtain ⟨e, -⟩ := hwr; have hle1 := hle.1; have hle2 := hle.2.1; omega
            · obtain ⟨-, rfl⟩ := hwr
              refine hg_iconst (v := 1) d_R_clause_140 (by decide) ?_
              refine hg_ireturn d_R_clause_141 rfl (by decide) ?_
              have hz : ps_cl n L p g i = ((ps_E n L (ps_F n L 4) ((ps_nm n L (ps_wd n L 2 5 0 p).2).2.1 + 1)).1, (ps_E n L (ps_F n L 4) ((ps_nm n L (ps_wd n L 2 5 0 p).2).2.1 + 1)).2.1, (fun f => g f + (if (ps_E n L (ps_F n L 4) ((ps_nm n L (ps_wd n L 2 5 0 p).2).2.1 + 1)).2.2 f = true then (if false = true then nI (ps_nm n L (ps_wd n L 2 5 0 p).2).2.2 else -nI (ps_nm n L (ps_wd n L 2 5 0 p).2).2.2) else 0)), i) := by unfold ps_cl; rw [if_neg (by rw [hs105]; decide), if_neg (by rw [hs102]; decide)]; unfold ps_fe; rw [if_pos hW, if_pos hN]; unfold ps_sp; rw [if_pos hsp]
              rw [hz]
              refine ⟨_, rfl, (if_pos hu).symm, by rw [← c2]; simp [hg_u3], (hf4.v).u (by decide), fun j hj => by rw [← hpr4 j hj]; simp [hg_u3]; omega, by rw [← hi, ← h64b]; simp [hg_u3], ⟨by show p ≤ (ps_E n L (ps_F n L 4) ((ps_nm n L (ps_wd n L 2 5 0 p).2).2.1 + 1)).2.1; omega, e2⟩, w2 + 1, by omega, by omega, by simp [hg_u3], fun _ => ⟨by show w2 + 1 - w ≤ (ps_E n L (ps_F n L 4) ((ps_nm n L (ps_wd n L 2 5 0 p).2).2.1 + 1)).2.1 - p; omega, fun f => ?_⟩⟩
              have d3 := d2.cg (cd' := hg_u3 (hg_u3 I4 12 0 w2 (64 * nI (ps_nm n L (ps_wd n L 2 5 0 p).2).2.2 + 8 * 0 + 7)) 10 0 4 (nI (w2 + 1)) 12 0) (fun j h1 h2 => by simp [hg_u3]; omega)
              rw [show w2 + 1 - w = (w2 - w) + 1 by omega, hc_ev_add]
              have d4 := d3 f 0 0 (g (hs_N f)) (by decide) (by decide)
              rw [show (g (hs_N f), (0 : Int32)) = (g (hs_N f), nI 0) from rfl, d4]
              show hc_st f _ _ = _
              rw [show hg_u3 (hg_u3 I4 12 0 w2 (64 * nI (ps_nm n L (ps_wd n L 2 5 0 p).2).2.2 + 8 * 0 + 7)) 10 0 4 (nI (w2 + 1)) 12 0 (w + (w2 - w)) = 64 * nI (ps_nm n L (ps_wd n L 2 5 0 p).2).2.2 + 8 * 0 + (if false = true then 6 else 7) from by rw [show w + (w2 - w) = w2 by omega]; simp [hg_u3]]
              exact hc_st_fe f _ _ _ hv100 false
          · rw [if_neg hu] at c1
            subst c1
            refine hg_if_ne (tgt := 123) d_R_clause_118 (by decide) (fun h_7 => absurd h_7 (by decide)) (fun h_7 => ?_)
            refine hg_iconst (v := 0) d_R_clause_121 (by decide) ?_
            refine hg_ireturn d_R_clause_122 rfl (by decide) ?_
            have hz : ps_cl n L p g i = ((ps_E n L (ps_F n L 4) ((ps_nm n L (ps_wd n L 2 5 0 p).2).2.1 + 1)).1, (ps_E n L (ps_F n L 4) ((ps_nm n L (ps_wd n L 2 5 0 p).2).2.1 + 1)).2.1, (fun f => g f + (if (ps_E n L (ps_F n L 4) ((ps_nm n L (ps_wd n L 2 5 0 p).2).2.1 + 1)).2.2 f = true then (if false = true then nI (ps_nm n L (ps_wd n L 2 5 0 p).2).2.2 else -nI (ps_nm n L (ps_wd n L 2 5 0 p).2).2.2) else 0)), i) := by unfold ps_cl; rw [if_neg (by rw [hs105]; decide), if_neg (by rw [hs102]; decide)]; unfold ps_fe; rw [if_pos hW, if_pos hN]; unfold ps_sp; rw [if_pos hsp]
            rw [hz]
            exact ⟨I4, rfl, (if_neg hu).symm, c2, hf4, hpr4, h64b.trans hi, ⟨by show p ≤ (ps_E n L (ps_F n L 4) ((ps_nm n L (ps_wd n L 2 5 0 p).2).2.1 + 1)).2.1; omega, e2⟩, w2, c6, c7, c8, fun z => absurd z hu⟩
        · obtain ⟨hsp, rfl, rfl⟩ := hsp
          refine hg_if_eq (tgt := 121) d_R_clause_110 (by decide) (fun h_8 => ?_) (fun h_8 => absurd (by decide) h_8)
          refine hg_iconst (v := 0) d_R_clause_121 (by decide) ?_
          refine hg_ireturn d_R_clause_122 rfl (by decide) ?_
          have hz : ps_cl n L p g i = (false, (ps_nm n L (ps_wd n L 2 5 0 p).2).2.1, g, i) := by simp [ps_cl, ps_fe, hs105, hs102, hW, hN, ps_sp, hsp]
          rw [hz]
          exact ⟨I3, rfl, rfl, hq3, hf3, fun j _ => by rw [h12], h64.1.trans hi, ⟨by show p ≤ (ps_nm n L (ps_wd n L 2 5 0 p).2).2.1; omega, hle.2.1⟩, w, Nat.le_refl _, by omega, h64.2.trans hw, fun z => Bool.noConfusion (show false = true from z)⟩
      · rw [if_neg hN]
        refine hg_if_ne (tgt := 99) d_R_clause_94 (by decide) (fun h_9 => absurd h_9 (by decide)) (fun h_9 => ?_)
        refine hg_iconst (v := 0) d_R_clause_97 (by decide) ?_
        refine hg_ireturn d_R_clause_98 rfl (by decide) ?_
        have hz : ps_cl n L p g i = (false, (ps_nm n L (ps_wd n L 2 5 0 p).2).2.1, g, i) := by simp [ps_cl, ps_fe, hs105, hs102, hW, hN]
        rw [hz]
        exact ⟨I3, rfl, rfl, hq3, hf3, fun j _ => by rw [h12], h64.1.trans hi, ⟨by show p ≤ (ps_nm n L (ps_wd n L 2 5 0 p).2).2.1; omega, hle.2.1⟩, w, Nat.le_refl _, by omega, h64.2.trans hw, fun z => Bool.noConfusion (show false = true from z)⟩
    · rw [if_neg hW]
      refine hg_if_eq (tgt := 97) d_R_clause_87 (by decide) (fun h_10 => ?_) (fun h_10 => absurd (by decide) h_10)
      refine hg_iconst (v := 0) d_R_clause_97 (by decide) ?_
      refine hg_ireturn d_R_clause_98 rfl (by decide) ?_
      have hz : ps_cl n L p g i = (false, (ps_wd n L 2 5 0 p).2, g, i) := by simp [ps_cl, ps_fe, hs105, hs102, hW]
      rw [hz]
      exact ⟨I2, rfl, rfl, hq2, hf2, fun j _ => by rw [hk2 12 (by decide)], (hj2 6 (by decide)).trans hi, ⟨hwge, hqn⟩, w, Nat.le_refl _, by omega, (hj2 4 (by decide)).trans hw, fun z => Bool.noConfusion (show false = true from z)⟩
  · have hlt : p < n := Nat.lt_of_not_le (fun z => h1 ((nI_leI (by omega) (by omega)).mpr z))
    obtain ⟨c, hc, ec⟩ := hx.2.2.2 p hlt
    refine hg_aload0 d_R_clause_11 ?_
    refine hg_getR d_R_clause_12 f_R_11 rfl rfl (hX.lt (n := 1) ⟨by decide, by decide⟩ rfl (by omega)) hR.r0 ?_
    refine hg_aload0 d_R_clause_15 ?_
    refine hg_getI d_R_clause_16 f_R_23 rfl rfl (hX.lt (n := 1) ⟨by decide, by decide⟩ rfl (by omega)) ?_
    refine hg_eq1 (y := nI p) (hp) ?_
    refine hg_bald_n (j := p) d_R_clause_19 rfl rfl (hX.lt (n := 1) ⟨by decide, by decide⟩ rfl (by omega)) (hX.jn (n := 100) (by decide) rfl (by omega)) ?_
    refine hg_eq1 (y := nI c) ((hx.2.1 p hlt).trans ec) ?_
    refine hg_i2c d_R_clause_20 ?_
    refine hg_eq1 (y := nI c) (nI_char hc) ?_
    refine hg_goto (tgt := 25) d_R_clause_21 (by decide) ?_
    refine hg_istore1 d_R_clause_25 rfl ?_
    refine hg_iload1 d_R_clause_26 ?_
    refine hg_bipush (v := 105) d_R_clause_27 (by decide) ?_
    refine hg_icmp_ne (tgt := 60) d_R_clause_29 (by decide) (fun h105 => ?_) (fun h105 => ?_)
    · have hs105 : ps_sg n L p 105 = false := ps_sg_f (fun z => h105 (ec.symm.trans z.2))
      refine hg_iload1 d_R_clause_60 ?_
      refine hg_bipush (v := 102) d_R_clause_61 (by decide) ?_
      refine hg_icmp_ne (tgt := 70) d_R_clause_63 (by decide) (fun h102 => ?_) (fun h102 => ?_)
      · have hs102 : ps_sg n L p 102 = false := ps_sg_f (fun z => h102 (ec.symm.trans z.2))
        refine hg_iconst (v := 0) d_R_clause_70 (by decide) ?_
        refine hg_istore2 d_R_clause_71 rfl ?_
        refine hg_aload0 d_R_clause_72 ?_
        refine hg_iload2 d_R_clause_73 ?_
        refine hg_if_eq (tgt := 82) d_R_clause_74 (by decide) (fun h_11 => ?_) (fun h_11 => absurd (by decide) h_11)
        refine hg_ldcS (i := 2) (tx := "ease ") d_R_clause_82 (by decide +kernel) ?_
        refine hg_cVi d_R_clause_84 l_R_47 rfl rfl (hX.lt (n := 1) ⟨by decide, by decide⟩ rfl (by omega)) rfl (Nat.le_of_ble_eq_true rfl) (m_R_word (n := n) (L := L) (t := 2) (p := p) (by decide) hX hR hx hp hpn) rfl ?_
        rintro _ _ ⟨I2, rfl, rfl, hq2, hqn, hk2, hj2⟩
        rw [show hg_sz 2 = 5 from rfl] at hq2 hqn ⊢
        have hwge : p ≤ (ps_wd n L 2 5 0 p).2 := ps_wd_ge 5 0 p
        have hf2 : hg_fd I2 I := ⟨fun k a _ => hk2 k a, hj2 1 (by decide)⟩
        by_cases hW : (ps_wd n L 2 5 0 p).1 = true
        · rw [if_pos hW]
          refine hg_if_eq (tgt := 97) d_R_clause_87 (by decide) (fun h_12 => absurd h_12 (by decide)) (fun h_12 => ?_)
          refine hg_aload0 d_R_clause_90 ?_
          refine hg_cVi d_R_clause_91 l_R_51 rfl rfl (hX.lt (n := 1) ⟨by decide, by decide⟩ rfl (by omega)) rfl (Nat.le_of_ble_eq_true rfl) (m_R_number (n := n) (L := L) (p := (ps_wd n L 2 5 0 p).2) hX hR (hx.fd hf2) hq2 hqn) rfl ?_
          rintro _ _ ⟨I3, rfl, rfl, hq3, hq5, hk3, hj3⟩
          have hle := ps_nm_le (L := L) hqn
          have hv100 := ps_nm_v (p := (ps_wd n L 2 5 0 p).2) hx
          have hf3 : hg_fd I3 I := hg_fd.tr ⟨fun k a _ => hk3 k a, hj3 1 (by decide) (by decide)⟩ hf2
          have h64 : I3 10 0 6 = I 10 0 6 ∧ I3 10 0 4 = I 10 0 4 := ⟨(hj3 6 (by decide) (by decide)).trans (hj2 6 (by decide)), (hj3 4 (by decide) (by decide)).trans (hj2 4 (by decide))⟩
          have h12 : I3 12 = I 12 := (hk3 12 (by decide)).trans (hk2 12 (by decide))
          have hx3 := hx.fd hf3
          by_cases hN : (ps_nm n L (ps_wd n L 2 5 0 p).2).1 = true
          · rw [if_pos hN]
            refine hg_if_ne (tgt := 99) d_R_clause_94 (by decide) (fun h_13 => ?_) (fun h_13 => absurd (by decide) h_13)
            refine hg_aload0 d_R_clause_99 ?_
            refine hg_getI d_R_clause_100 f_R_54 rfl rfl (hX.lt (n := 1) ⟨by decide, by decide⟩ rfl (by omega)) ?_
            refine hg_eq1 (y := nI (ps_nm n L (ps_wd n L 2 5 0 p).2).2.2) (hq5) ?_
            refine hg_istore3 d_R_clause_103 rfl ?_
            refine hg_aload0 d_R_clause_104 ?_
            refine hg_bipush (v := 32) d_R_clause_105 (by decide) ?_
            refine hg_cVi d_R_clause_107 l_R_36 rfl rfl (hX.lt (n := 1) ⟨by decide, by decide⟩ rfl (by omega)) rfl (Nat.le_of_ble_eq_true rfl) (m_R_sign (n := n) (L := L) (p := (ps_nm n L (ps_wd n L 2 5 0 p).2).2.1) hX hR hx3 hq3 hle.2.1) rfl ?_
            rintro _ _ (hsp | hsp)
            · obtain ⟨hsp, rfl, rfl⟩ := hsp
              refine hg_if_eq (tgt := 121) d_R_clause_110 (by decide) (fun h_14 => absurd h_14 (by decide)) (fun h_14 => ?_)
              refine hg_aload0 d_R_clause_113 ?_
              refine hg_iconst (v := 0) d_R_clause_114 (by decide) ?_
              have hlt3 := (ps_sg_t hsp).1
              have hE := m_R_E (l := l) (E := E) (T := T) (m_R_factor (n := n) (L := L) 4 (by decide)) (ps_F_ok n L 4) (by decide)
              obtain ⟨e1, e2, e3⟩ := ps_E_ok (L := L) (ps_F_ok n L 4) ((ps_nm n L (ps_wd n L 2 5 0 p).2).2.1 + 1) (by omega)
              refine hg_cVi d_R_clause_115 l_R_60 rfl rfl (hX.lt (n := 1) ⟨by decide, by decide⟩ rfl (by omega)) rfl (Nat.le_of_ble_eq_true rfl) (hE _ (hg_u3 I3 10 0 2 (nI ((ps_nm n L (ps_wd n L 2 5 0 p).2).2.1 + 1))) Lg Rf X ((ps_nm n L (ps_wd n L 2 5 0 p).2).2.1 + 1) w (by omega) hX hR (hx3.fd (hg_fd.rf.u (by decide))) (by simp [hg_u3]) (by omega) (by simp [hg_u3, h64.2, hw]) (by omega)) rfl ?_
              rintro v _ ⟨I4, rfl, hP4⟩
              obtain ⟨c1, c2, c3, c4, c5, w2, c6, c7, c8, c9⟩ := hP4
              have hf4 : hg_fd I4 I := c3.tr (hf3.u (by decide))
              have h64b : I4 10 0 6 = I 10 0 6 := c4.trans ((by simp [hg_u3] : _ = I3 10 0 6).trans h64.1)
              have hpr4 : ∀ j, j < w → I4 12 0 j = I 12 0 j := fun j hj => (c5 j hj).trans ((by simp [hg_u3] : _ = I3 12 0 j).trans (by rw [h12]))
              by_cases hu : (ps_E n L (ps_F n L 4) ((ps_nm n L (ps_wd n L 2 5 0 p).2).2.1 + 1)).1 = true
              · rw [if_pos hu] at c1
                subst c1
                refine hg_if_ne (tgt := 123) d_R_clause_118 (by decide) (fun h_15 => ?_) (fun h_15 => absurd (by decide) h_15)
                refine hg_aload0 d_R_clause_123 ?_
                refine hg_iload3 d_R_clause_124 ?_
                refine hg_iconst (v := 0) d_R_clause_125 (by decide) ?_
                refine hg_iload2 d_R_clause_126 ?_
                refine hg_if_eq (tgt := 135) d_R_clause_127 (by decide) (fun h_16 => ?_) (fun h_16 => absurd (by decide) h_16)
                refine hg_bipush (v := 7) d_R_clause_135 (by decide) ?_
                obtain ⟨d1, d2⟩ := c9 hu
                refine hg_cVv d_R_clause_137 l_R_64 rfl rfl (hX.lt (n := 1) ⟨by decide, by decide⟩ rfl (by omega)) rfl (Nat.le_of_ble_eq_true rfl) (m_R_write (w := w2) hX hR c8 c7) rfl ?_
                rintro _ (hwr | hwr)
                · obtain ⟨e, -⟩ := hwr; have hle1 := hle.1; have hle2 := hle.2.1; omega
                · obtain ⟨-, rfl⟩ := hwr
                  refine hg_iconst (v := 1) d_R_clause_140 (by decide) ?_
                  refine hg_ireturn d_R_clause_141 rfl (by decide) ?_
                  have hz : ps_cl n L p g i = ((ps_E n L (ps_F n L 4) ((ps_nm n L (ps_wd n L 2 5 0 p).2).2.1 + 1)).1, (ps_E n L (ps_F n L 4) ((ps_nm n L (ps_wd n L 2 5 0 p).2).2.1 + 1)).2.1, (fun f => g f + (if (ps_E n L (ps_F n L 4) ((ps_nm n L (ps_wd n L 2 5 0 p).2).2.1 + 1)).2.2 f = true then (if false = true then nI (ps_nm n L (ps_wd n L 2 5 0 p).2).2.2 else -nI (ps_nm n L (ps_wd n L 2 5 0 p).2).2.2) else 0)), i) := by unfold ps_cl; rw [if_neg (by rw [hs105]; decide), if_neg (by rw [hs102]; decide)]; unfold ps_fe; rw [if_pos hW, if_pos hN]; unfold ps_sp; rw [if_pos hsp]
                  rw [hz]
                  refine ⟨_, rfl, (if_pos hu).symm, by rw [← c2]; simp [hg_u3], (hf4.v).u (by decide), fun j hj => by rw [← hpr4 j hj]; simp [hg_u3]; omega, by rw [← hi, ← h64b]; simp [hg_u3], ⟨by show p ≤ (ps_E n L (ps_F n L 4) ((ps_nm n L (ps_wd n L 2 5 0 p).2).2.1 + 1)).2.1; omega, e2⟩, w2 + 1, by omega, by omega, by simp [hg_u3], fun _ => ⟨by show w2 + 1 - w ≤ (ps_E n L (ps_F n L 4) ((ps_nm n L (ps_wd n L 2 5 0 p).2).2.1 + 1)).2.1 - p; omega, fun f => ?_⟩⟩
                  have d3 := d2.cg (cd' := hg_u3 (hg_u3 I4 12 0 w2 (64 * nI (ps_nm n L (ps_wd n L 2 5 0 p).2).2.2 + 8 * 0 + 7)) 10 0 4 (nI (w2 + 1)) 12 0) (fun j h1 h2 => by simp [hg_u3]; omega)
                  rw [show w2 + 1 - w = (w2 - w) + 1 by omega, hc_ev_add]
                  have d4 := d3 f 0 0 (g (hs_N f)) (by decide) (by decide)
                  rw [show (g (hs_N f), (0 : Int32)) = (g (hs_N f), nI 0) from rfl, d4]
                  show hc_st f _ _ = _
                  rw [show hg_u3 (hg_u3 I4 12 0 w2 (64 * nI (ps_nm n L (ps_wd n L 2 5 0 p).2).2.2 + 8 * 0 + 7)) 10 0 4 (nI (w2 + 1)) 12 0 (w + (w2 - w)) = 64 * nI (ps_nm n L (ps_wd n L 2 5 0 p).2).2.2 + 8 * 0 + (if false = true then 6 else 7) from by rw [show w + (w2 - w) = w2 by omega]; simp [hg_u3]]
                  exact hc_st_fe f _ _ _ hv100 false
              · rw [if_neg hu] at c1
                subst c1
                refine hg_if_ne (tgt := 123) d_R_clause_118 (by decide) (fun h_17 => absurd h_17 (by decide)) (fun h_17 => ?_)
                refine hg_iconst (v := 0) d_R_clause_121 (by decide) ?_
                refine hg_ireturn d_R_clause_122 rfl (by decide) ?_
                have hz : ps_cl n L p g i = ((ps_E n L (ps_F n L 4) ((ps_nm n L (ps_wd n L 2 5 0 p).2).2.1 + 1)).1, (ps_E n L (ps_F n L 4) ((ps_nm n L (ps_wd n L 2 5 0 p).2).2.1 + 1)).2.1, (fun f => g f + (if (ps_E n L (ps_F n L 4) ((ps_nm n L (ps_wd n L 2 5 0 p).2).2.1 + 1)).2.2 f = true then (if false = true then nI (ps_nm n L (ps_wd n L 2 5 0 p).2).2.2 else -nI (ps_nm n L (ps_wd n L 2 5 0 p).2).2.2) else 0)), i) := by unfold ps_cl; rw [if_neg (by rw [hs105]; decide), if_neg (by rw [hs102]; decide)]; unfold ps_fe; rw [if_pos hW, if_pos hN]; unfold ps_sp; rw [if_pos hsp]
                rw [hz]
                exact ⟨I4, rfl, (if_neg hu).symm, c2, hf4, hpr4, h64b.trans hi, ⟨by show p ≤ (ps_E n L (ps_F n L 4) ((ps_nm n L (ps_wd n L 2 5 0 p).2).2.1 + 1)).2.1; omega, e2⟩, w2, c6, c7, c8, fun z => absurd z hu⟩
            · obtain ⟨hsp, rfl, rfl⟩ := hsp
              refine hg_if_eq (tgt := 121) d_R_clause_110 (by decide) (fun h_18 => ?_) (fun h_18 => absurd (by decide) h_18)
              refine hg_iconst (v := 0) d_R_clause_121 (by decide) ?_
              refine hg_ireturn d_R_clause_122 rfl (by decide) ?_
              have hz : ps_cl n L p g i = (false, (ps_nm n L (ps_wd n L 2 5 0 p).2).2.1, g, i) := by simp [ps_cl, ps_fe, hs105, hs102, hW, hN, ps_sp, hsp]
              rw [hz]
              exact ⟨I3, rfl, rfl, hq3, hf3, fun j _ => by rw [h12], h64.1.trans hi, ⟨by show p ≤ (ps_nm n L (ps_wd n L 2 5 0 p).2).2.1; omega, hle.2.1⟩, w, Nat.le_refl _, by omega, h64.2.trans hw, fun z => Bool.noConfusion (show false = true from z)⟩
          · rw [if_neg hN]
            refine hg_if_ne (tgt := 99) d_R_clause_94 (by decide) (fun h_19 => absurd h_19 (by decide)) (fun h_19 => ?_)
            refine hg_iconst (v := 0) d_R_clause_97 (by decide) ?_
            refine hg_ireturn d_R_clause_98 rfl (by decide) ?_
            have hz : ps_cl n L p g i = (false, (ps_nm n L (ps_wd n L 2 5 0 p).2).2.1, g, i) := by simp [ps_cl, ps_fe, hs105, hs102, hW, hN]
            rw [hz]
            exact ⟨I3, rfl, rfl, hq3, hf3, fun j _ => by rw [h12], h64.1.trans hi, ⟨by show p ≤ (ps_nm n L (ps_wd n L 2 5 0 p).2).2.1; omega, hle.2.1⟩, w, Nat.le_refl _, by omega, h64.2.trans hw, fun z => Bool.noConfusion (show false = true from z)⟩
        · rw [if_neg hW]
          refine hg_if_eq (tgt := 97) d_R_clause_87 (by decide) (fun h_20 => ?_) (fun h_20 => absurd (by decide) h_20)
          refine hg_iconst (v := 0) d_R_clause_97 (by decide) ?_
          refine hg_ireturn d_R_clause_98 rfl (by decide) ?_
          have hz : ps_cl n L p g i = (false, (ps_wd n L 2 5 0 p).2, g, i) := by simp [ps_cl, ps_fe, hs105, hs102, hW]
          rw [hz]
          exact ⟨I2, rfl, rfl, hq2, hf2, fun j _ => by rw [hk2 12 (by decide)], (hj2 6 (by decide)).trans hi, ⟨hwge, hqn⟩, w, Nat.le_refl _, by omega, (hj2 4 (by decide)).trans hw, fun z => Bool.noConfusion (show false = true from z)⟩
      · replace h102 := Decidable.not_not.mp h102
        have hs102 : ps_sg n L p 102 = true := decide_eq_true ⟨hlt, ec.trans h102⟩
        refine hg_iconst (v := 1) d_R_clause_66 (by decide) ?_
        refine hg_goto (tgt := 71) d_R_clause_67 (by decide) ?_
        refine hg_istore2 d_R_clause_71 rfl ?_
        refine hg_aload0 d_R_clause_72 ?_
        refine hg_iload2 d_R_clause_73 ?_
        refine hg_if_eq (tgt := 82) d_R_clause_74 (by decide) (fun h_21 => absurd h_21 (by decide)) (fun h_21 => ?_)
        refine hg_ldcS (i := 1) (tx := "fear ") d_R_clause_77 (by decide +kernel) ?_
        refine hg_goto (tgt := 84) d_R_clause_79 (by decide) ?_
        refine hg_cVi d_R_clause_84 l_R_47 rfl rfl (hX.lt (n := 1) ⟨by decide, by decide⟩ rfl (by omega)) rfl (Nat.le_of_ble_eq_true rfl) (m_R_word (n := n) (L := L) (t := 1) (p := p) (by decide) hX hR hx hp hpn) rfl ?_
        rintro _ _ ⟨I2, rfl, rfl, hq2, hqn, hk2, hj2⟩
        rw [show hg_sz 1 = 5 from rfl] at hq2 hqn ⊢
        have hwge : p ≤ (ps_wd n L 1 5 0 p).2 := ps_wd_ge 5 0 p
        have hf2 : hg_fd I2 I := ⟨fun k a _ => hk2 k a, hj2 1 (by decide)⟩
        by_cases hW : (ps_wd n L 1 5 0 p).1 = true
        · rw [if_pos hW]
          refine hg_if_eq (tgt := 97) d_R_clause_87 (by decide) (fun h_22 => absurd h_22 (by decide)) (fun h_22 => ?_)
          refine hg_aload0 d_R_clause_90 ?_
          refine hg_cVi d_R_clause_91 l_R_51 rfl rfl (hX.lt (n := 1) ⟨by decide, by decide⟩ rfl (by omega)) rfl (Nat.le_of_ble_eq_true rfl) (m_R_number (n := n) (L := L) (p := (ps_wd n L 1 5 0 p).2) hX hR (hx.fd hf2) hq2 hqn) rfl ?_
          rintro _ _ ⟨I3, rfl, rfl, hq3, hq5, hk3, hj3⟩
          have hle := ps_nm_le (L := L) hqn
          have hv100 := ps_nm_v (p := (ps_wd n L 1 5 0 p).2) hx
          have hf3 : hg_fd I3 I := hg_fd.tr ⟨fun k a _ => hk3 k a, hj3 1 (by decide) (by decide)⟩ hf2
          have h64 : I3 10 0 6 = I 10 0 6 ∧ I3 10 0 4 = I 10 0 4 := ⟨(hj3 6 (by decide) (by decide)).trans (hj2 6 (by decide)), (hj3 4 (by decide) (by decide)).trans (hj2 4 (by decide))⟩
          have h12 : I3 12 = I 12 := (hk3 12 (by decide)).trans (hk2 12 (by decide))
          have hx3 := hx.fd hf3
          by_cases hN : (ps_nm n L (ps_wd n L 1 5 0 p).2).1 = true
          · rw [if_pos hN]
            refine hg_if_ne (tgt := 99) d_R_clause_94 (by decide) (fun h_23 => ?_) (fun h_23 => absurd (by decide) h_23)
            refine hg_aload0 d_R_clause_99 ?_
            refine hg_getI d_R_clause_100 f_R_54 rfl rfl (hX.lt (n := 1) ⟨by decide, by decide⟩ rfl (by omega)) ?_
            refine hg_eq1 (y := nI (ps_nm n L (ps_wd n L 1 5 0 p).2).2.2) (hq5) ?_
            refine hg_istore3 d_R_clause_103 rfl ?_
            refine hg_aload0 d_R_clause_104 ?_
            refine hg_bipush (v := 32) d_R_clause_105 (by decide) ?_
            refine hg_cVi d_R_clause_107 l_R_36 rfl rfl (hX.lt (n := 1) ⟨by decide, by decide⟩ rfl (by omega)) rfl (Nat.le_of_ble_eq_true rfl) (m_R_sign (n := n) (L := L) (p := (ps_nm n L (ps_wd n L 1 5 0 p).2).2.1) hX hR hx3 hq3 hle.2.1) rfl ?_
            rintro _ _ (hsp | hsp)
            · obtain ⟨hsp, rfl, rfl⟩ := hsp
              refine hg_if_eq (tgt := 121) d_R_clause_110 (by decide) (fun h_24 => absurd h_24 (by decide)) (fun h_24 => ?_)
              refine hg_aload0 d_R_clause_113 ?_
              refine hg_iconst (v := 0) d_R_clause_114 (by decide) ?_
              have hlt3 := (ps_sg_t hsp).1
              have hE := m_R_E (l := l) (E := E) (T := T) (m_R_factor (n := n) (L := L) 4 (by decide)) (ps_F_ok n L 4) (by decide)
              obtain ⟨e1, e2, e3⟩ := ps_E_ok (L := L) (ps_F_ok n L 4) ((ps_nm n L (ps_wd n L 1 5 0 p).2).2.1 + 1) (by omega)
              refine hg_cVi d_R_clause_115 l_R_60 rfl rfl (hX.lt (n := 1) ⟨by decide, by decide⟩ rfl (by omega)) rfl (Nat.le_of_ble_eq_true rfl) (hE _ (hg_u3 I3 10 0 2 (nI ((ps_nm n L (ps_wd n L 1 5 0 p).2).2.1 + 1))) Lg Rf X ((ps_nm n L (ps_wd n L 1 5 0 p).2).2.1 + 1) w (by omega) hX hR (hx3.fd (hg_fd.rf.u (by decide))) (by simp [hg_u3]) (by omega) (by simp [hg_u3, h64.2, hw]) (by omega)) rfl ?_
              rintro v _ ⟨I4, rfl, hP4⟩
              obtain ⟨c1, c2, c3, c4, c5, w2, c6, c7, c8, c9⟩ := hP4
              have hf4 : hg_fd I4 I := c3.tr (hf3.u (by decide))
              have h64b : I4 10 0 6 = I 10 0 6 := c4.trans ((by simp [hg_u3] : _ = I3 10 0 6).trans h64.1)
              have hpr4 : ∀ j, j < w → I4 12 0 j = I 12 0 j := fun j hj => (c5 j hj).trans ((by simp [hg_u3] : _ = I3 12 0 j).trans (by rw [h12]))
              by_cases hu : (ps_E n L (ps_F n L 4) ((ps_nm n L (ps_wd n L 1 5 0 p).2).2.1 + 1)).1 = true
              · rw [if_pos hu] at c1
                subst c1
                refine hg_if_ne (tgt := 123) d_R_clause_118 (by decide) (fun h_25 => ?_) (fun h_25 => absurd (by decide) h_25)
                refine hg_aload0 d_R_clause_123 ?_
                refine hg_iload3 d_R_clause_124 ?_
                refine hg_iconst (v := 0) d_R_clause_125 (by decide) ?_
                refine hg_iload2 d_R_clause_126 ?_
                refine hg_if_eq (tgt := 135) d_R_clause_127 (by decide) (fun h_26 => absurd h_26 (by decide)) (fun h_26 => ?_)
                refine hg_bipush (v := 6) d_R_clause_130 (by decide) ?_
                refine hg_goto (tgt := 137) d_R_clause_132 (by decide) ?_
                obtain ⟨d1, d2⟩ := c9 hu
                refine hg_cVv d_R_clause_137 l_R_64 rfl rfl (hX.lt (n := 1) ⟨by decide, by decide⟩ rfl (by omega)) rfl (Nat.le_of_ble_eq_true rfl) (m_R_write (w := w2) hX hR c8 c7) rfl ?_
                rintro _ (hwr | hwr)
                · obtain ⟨e, -⟩ := hwr; have hle1 := hle.1; have hle2 := hle.2.1; omega
                · obtain ⟨-, rfl⟩ := hwr
                  refine hg_iconst (v := 1) d_R_clause_140 (by decide) ?_
                  refine hg_ireturn d_R_clause_141 rfl (by decide) ?_
                  have hz : ps_cl n L p g i = ((ps_E n L (ps_F n L 4) ((ps_nm n L (ps_wd n L 1 5 0 p).2).2.1 + 1)).1, (ps_E n L (ps_F n L 4) ((ps_nm n L (ps_wd n L 1 5 0 p).2).2.1 + 1)).2.1, (fun f => g f + (if (ps_E n L (ps_F n L 4) ((ps_nm n L (ps_wd n L 1 5 0 p).2).2.1 + 1)).2.2 f = true then (if true = true then nI (ps_nm n L (ps_wd n L 1 5 0 p).2).2.2 else -nI (ps_nm n L (ps_wd n L 1 5 0 p).2).2.2) else 0)), i) := by unfold ps_cl; rw [if_neg (by rw [hs105]; decide), if_pos hs102]; unfold ps_fe; rw [if_pos hW, if_pos hN]; unfold ps_sp; rw [if_pos hsp]
                  rw [hz]
                  refine ⟨_, rfl, (if_pos hu).symm, by rw [← c2]; simp [hg_u3], (hf4.v).u (by decide), fun j hj => by rw [← hpr4 j hj]; simp [hg_u3]; omega, by rw [← hi, ← h64b]; simp [hg_u3], ⟨by show p ≤ (ps_E n L (ps_F n L 4) ((ps_nm n L (ps_wd n L 1 5 0 p).2).2.1 + 1)).2.1; omega, e2⟩, w2 + 1, by omega, by omega, by simp [hg_u3], fun _ => ⟨by show w2 + 1 - w ≤ (ps_E n L (ps_F n L 4) ((ps_nm n L (ps_wd n L 1 5 0 p).2).2.1 + 1)).2.1 - p; omega, fun f => ?_⟩⟩
                  have d3 := d2.cg (cd' := hg_u3 (hg_u3 I4 12 0 w2 (64 * nI (ps_nm n L (ps_wd n L 1 5 0 p).2).2.2 + 8 * 0 + 6)) 10 0 4 (nI (w2 + 1)) 12 0) (fun j h1 h2 => by simp [hg_u3]; omega)
                  rw [show w2 + 1 - w = (w2 - w) + 1 by omega, hc_ev_add]
                  have d4 := d3 f 0 0 (g (hs_N f)) (by decide) (by decide)
                  rw [show (g (hs_N f), (0 : Int32)) = (g (hs_N f), nI 0) from rfl, d4]
                  show hc_st f _ _ = _
                  rw [show hg_u3 (hg_u3 I4 12 0 w2 (64 * nI (ps_nm n L (ps_wd n L 1 5 0 p).2).2.2 + 8 * 0 + 6)) 10 0 4 (nI (w2 + 1)) 12 0 (w + (w2 - w)) = 64 * nI (ps_nm n L (ps_wd n L 1 5 0 p).2).2.2 + 8 * 0 + (if true = true then 6 else 7) from by rw [show w + (w2 - w) = w2 by omega]; simp [hg_u3]]
                  exact hc_st_fe f _ _ _ hv100 true
              · rw [if_neg hu] at c1
                subst c1
                refine hg_if_ne (tgt := 123) d_R_clause_118 (by decide) (fun h_27 => absurd h_27 (by decide)) (fun h_27 => ?_)
                refine hg_iconst (v := 0) d_R_clause_121 (by decide) ?_
                refine hg_ireturn d_R_clause_122 rfl (by decide) ?_
                have hz : ps_cl n L p g i = ((ps_E n L (ps_F n L 4) ((ps_nm n L (ps_wd n L 1 5 0 p).2).2.1 + 1)).1, (ps_E n L (ps_F n L 4) ((ps_nm n L (ps_wd n L 1 5 0 p).2).2.1 + 1)).2.1, (fun f => g f + (if (ps_E n L (ps_F n L 4) ((ps_nm n L (ps_wd n L 1 5 0 p).2).2.1 + 1)).2.2 f = true then (if true = true then nI (ps_nm n L (ps_wd n L 1 5 0 p).2).2.2 else -nI (ps_nm n L (ps_wd n L 1 5 0 p).2).2.2) else 0)), i) := by unfold ps_cl; rw [if_neg (by rw [hs105]; decide), if_pos hs102]; unfold ps_fe; rw [if_pos hW, if_pos hN]; unfold ps_sp; rw [if_pos hsp]
                rw [hz]
                exact ⟨I4, rfl, (if_neg hu).symm, c2, hf4, hpr4, h64b.trans hi, ⟨by show p ≤ (ps_E n L (ps_F n L 4) ((ps_nm n L (ps_wd n L 1 5 0 p).2).2.1 + 1)).2.1; omega, e2⟩, w2, c6, c7, c8, fun z => absurd z hu⟩
            · obtain ⟨hsp, rfl, rfl⟩ := hsp
              refine hg_if_eq (tgt := 121) d_R_clause_110 (by decide) (fun h_28 => ?_) (fun h_28 => absurd (by decide) h_28)
              refine hg_iconst (v := 0) d_R_clause_121 (by decide) ?_
              refine hg_ireturn d_R_clause_122 rfl (by decide) ?_
              have hz : ps_cl n L p g i = (false, (ps_nm n L (ps_wd n L 1 5 0 p).2).2.1, g, i) := by simp [ps_cl, ps_fe, hs105, hs102, hW, hN, ps_sp, hsp]
              rw [hz]
              exact ⟨I3, rfl, rfl, hq3, hf3, fun j _ => by rw [h12], h64.1.trans hi, ⟨by show p ≤ (ps_nm n L (ps_wd n L 1 5 0 p).2).2.1; omega, hle.2.1⟩, w, Nat.le_refl _, by omega, h64.2.trans hw, fun z => Bool.noConfusion (show false = true from z)⟩
          · rw [if_neg hN]
            refine hg_if_ne (tgt := 99) d_R_clause_94 (by decide) (fun h_29 => absurd h_29 (by decide)) (fun h_29 => ?_)
            refine hg_iconst (v := 0) d_R_clause_97 (by decide) ?_
            refine hg_ireturn d_R_clause_98 rfl (by decide) ?_
            have hz : ps_cl n L p g i = (false, (ps_nm n L (ps_wd n L 1 5 0 p).2).2.1, g, i) := by simp [ps_cl, ps_fe, hs105, hs102, hW, hN]
            rw [hz]
            exact ⟨I3, rfl, rfl, hq3, hf3, fun j _ => by rw [h12], h64.1.trans hi, ⟨by show p ≤ (ps_nm n L (ps_wd n L 1 5 0 p).2).2.1; omega, hle.2.1⟩, w, Nat.le_refl _, by omega, h64.2.trans hw, fun z => Bool.noConfusion (show false = true from z)⟩
        · rw [if_neg hW]
          refine hg_if_eq (tgt := 97) d_R_clause_87 (by decide) (fun h_30 => ?_) (fun h_30 => absurd (by decide) h_30)
          refine hg_iconst (v := 0) d_R_clause_97 (by decide) ?_
          refine hg_ireturn d_R_clause_98 rfl (by decide) ?_
          have hz : ps_cl n L p g i = (false, (ps_wd n L 1 5 0 p).2, g, i) := by simp [ps_cl, ps_fe, hs105, hs102, hW]
          rw [hz]
          exact ⟨I2, rfl, rfl, hq2, hf2, fun j _ => by rw [hk2 12 (by decide)], (hj2 6 (by decide)).trans hi, ⟨hwge, hqn⟩, w, Nat.le_refl _, by omega, (hj2 4 (by decide)).trans hw, fun z => Bool.noConfusion (show false = true from z)⟩
    · replace h105 := Decidable.not_not.mp h105
      have hs105 : ps_sg n L p 105 = true := decide_eq_true ⟨hlt, ec.trans h105⟩
      refine hg_aload0 d_R_clause_32 ?_
      refine hg_ldcS (i := 0) (tx := "ill ") d_R_clause_33 (by decide +kernel) ?_
      refine hg_cVi d_R_clause_35 l_R_47 rfl rfl (hX.lt (n := 1) ⟨by decide, by decide⟩ rfl (by omega)) rfl (Nat.le_of_ble_eq_true rfl) (m_R_word (n := n) (L := L) (t := 0) (p := p) (by decide) hX hR hx hp hpn) rfl ?_
      rintro _ _ ⟨I2, rfl, rfl, hq2, hqn, hk2, hj2⟩
      rw [show hg_sz 0 = 4 from rfl] at hq2 hqn ⊢
      have hwge : p ≤ (ps_wd n L 0 4 0 p).2 := ps_wd_ge 4 0 p
      have hf2 : hg_fd I2 I := ⟨fun k a _ => hk2 k a, hj2 1 (by decide)⟩
      by_cases hW : (ps_wd n L 0 4 0 p).1 = true
      · rw [if_pos hW]
        refine hg_if_eq (tgt := 48) d_R_clause_38 (by decide) (fun h_31 => absurd h_31 (by decide)) (fun h_31 => ?_)
        refine hg_aload0 d_R_clause_41 ?_
        refine hg_cVi d_R_clause_42 l_R_51 rfl rfl (hX.lt (n := 1) ⟨by decide, by decide⟩ rfl (by omega)) rfl (Nat.le_of_ble_eq_true rfl) (m_R_number (n := n) (L := L) (p := (ps_wd n L 0 4 0 p).2) hX hR (hx.fd hf2) hq2 hqn) rfl ?_
        rintro _ _ ⟨I3, rfl, rfl, hq3, hq5, hk3, hj3⟩
        have hle := ps_nm_le (L := L) hqn
        have hv100 := ps_nm_v (p := (ps_wd n L 0 4 0 p).2) hx
        have hf3 : hg_fd I3 I := hg_fd.tr ⟨fun k a _ => hk3 k a, hj3 1 (by decide) (by decide)⟩ hf2
        have h64 : I3 10 0 6 = I 10 0 6 ∧ I3 10 0 4 = I 10 0 4 := ⟨(hj3 6 (by decide) (by decide)).trans (hj2 6 (by decide)), (hj3 4 (by decide) (by decide)).trans (hj2 4 (by decide))⟩
        have h12 : I3 12 = I 12 := (hk3 12 (by decide)).trans (hk2 12 (by decide))
        have hx3 := hx.fd hf3
        by_cases hN : (ps_nm n L (ps_wd n L 0 4 0 p).2).1 = true
        · rw [if_pos hN]
          refine hg_if_ne (tgt := 50) d_R_clause_45 (by decide) (fun h_32 => ?_) (fun h_32 => absurd (by decide) h_32)
          refine hg_aload0 d_R_clause_50 ?_
          refine hg_aload0 d_R_clause_51 ?_
          refine hg_getI d_R_clause_52 f_R_54 rfl rfl (hX.lt (n := 1) ⟨by decide, by decide⟩ rfl (by omega)) ?_
          refine hg_eq1 (y := nI (ps_nm n L (ps_wd n L 0 4 0 p).2).2.2) (hq5) ?_
          refine hg_putI d_R_clause_55 f_R_29 rfl rfl (Or.inl rfl) rfl rfl (hX.lt (n := 1) ⟨by decide, by decide⟩ rfl (by omega)) ?_
          refine hg_iconst (v := 1) d_R_clause_58 (by decide) ?_
          refine hg_ireturn d_R_clause_59 rfl (by decide) ?_
          have hz : ps_cl n L p g i = (true, (ps_nm n L (ps_wd n L 0 4 0 p).2).2.1, g, nI (ps_nm n L (ps_wd n L 0 4 0 p).2).2.2) := by simp [ps_cl, ps_ill, hs105, hW, hN]
          rw [hz]
          exact ⟨_, rfl, rfl, by rw [← hq3]; simp [hg_u3], hf3.u (by decide), fun j _ => by rw [← congrFun (congrFun h12 0) j]; simp [hg_u3], by simp [hg_u3], ⟨by show p ≤ (ps_nm n L (ps_wd n L 0 4 0 p).2).2.1; omega, hle.2.1⟩, w, Nat.le_refl _, by omega, by rw [← hw, ← h64.2]; simp [hg_u3], fun z => ⟨by omega, fun f => by rw [Nat.sub_self]; rfl⟩⟩
        · rw [if_neg hN]
          refine hg_if_ne (tgt := 50) d_R_clause_45 (by decide) (fun h_33 => absurd h_33 (by decide)) (fun h_33 => ?_)
          refine hg_iconst (v := 0) d_R_clause_48 (by decide) ?_
          refine hg_ireturn d_R_clause_49 rfl (by decide) ?_
          have hz : ps_cl n L p g i = (false, (ps_nm n L (ps_wd n L 0 4 0 p).2).2.1, g, i) := by simp [ps_cl, ps_ill, hs105, hW, hN]
          rw [hz]
          exact ⟨I3, rfl, rfl, hq3, hf3, fun j _ => by rw [h12], h64.1.trans hi, ⟨by show p ≤ (ps_nm n L (ps_wd n L 0 4 0 p).2).2.1; omega, hle.2.1⟩, w, Nat.le_refl _, by omega, h64.2.trans hw, fun z => Bool.noConfusion (show false = true from z)⟩
      · rw [if_neg hW]
        refine hg_if_eq (tgt := 48) d_R_clause_38 (by decide) (fun h_34 => ?_) (fun h_34 => absurd (by decide) h_34)
        refine hg_iconst (v := 0) d_R_clause_48 (by decide) ?_
        refine hg_ireturn d_R_clause_49 rfl (by decide) ?_
        have hz : ps_cl n L p g i = (false, (ps_wd n L 0 4 0 p).2, g, i) := by simp [ps_cl, ps_ill, hs105, hW]
        rw [hz]
        exact ⟨I2, rfl, rfl, hq2, hf2, fun j _ => by rw [hk2 12 (by decide)], (hj2 6 (by decide)).trans hi, ⟨hwge, hqn⟩, w, Nat.le_refl _, by omega, (hj2 4 (by decide)).trans hw, fun z => Bool.noConfusion (show false = true from z)⟩

end M20
