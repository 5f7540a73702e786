/-! the model reads THE TEXT: a CLAUSE -/
theorem ps_wd_le {n : Nat} {L : Nat → Int32} {t : Nat} : ∀ (k j p : Nat), p ≤ n → (ps_wd n L t k j p).2 ≤ n
  | 0, _, _, h => h
  | k + 1, j, p, h => by
    unfold ps_wd
    split
    · rename_i z; exact ps_wd_le k _ _ (by have := ps_sg_t z; omega)
    · exact h
/-- what reading CLAUSE i changes -/
def hm_c (i : Nat) (I' I : Nat → Nat → Nat → Int32) : Prop := (∀ q, q ≠ 21 → q ≠ 22 → I' q = I q) ∧ (∀ j, ¬ ((16 ≤ j ∧ j ≤ 19) ∨ j = 28) → I' 21 0 j = I 21 0 j) ∧ (∀ r, ¬ (11 ≤ r ∧ r ≤ 15) → I' 22 r = I 22 r) ∧ ∀ r j, 11 ≤ r → r ≤ 14 → j ≠ i → I' 22 r j = I 22 r j
def pc_in (W N : Nat) (D : (Nat → Int32) → Bool) (f : Nat → Int32) : Int32 := if W < 2 then (if D f = true then (if W = 0 then nI N else -nI N) else 0) else 0
def pc_D (i c : Nat) (g : (Nat → Int32) → Int32) (il : Int32) (q : ps_C) (I' : Nat → Nat → Nat → Int32) : Prop := ∃ (W N : Nat) (D : (Nat → Int32) → Bool), W ≤ 2 ∧ I' 22 11 i = nI W ∧ N ≤ 99 ∧ I' 22 12 i = nI N ∧ (W < 2 → ∃ b k : Nat, b + k ≤ c ∧ k ≤ 100 ∧ I' 22 13 i = nI b ∧ I' 22 14 i = nI k ∧ ps_me (I' 22 15) b k D) ∧ (∀ f, q.2.2.1 f = g f + pc_in W N D f) ∧ q.2.2.2 = (if W = 2 then nI N else il)
def pc_P (w p i : Nat) (g : (Nat → Int32) → Int32) (il : Int32) (q : ps_C) (I I' : Nat → Nat → Nat → Int32) (v : Int32) : Prop := v = (if q.1 = true then 1 else 0) ∧ I' 21 0 16 = nI q.2.1 ∧ hm_c i I' I ∧ (∀ j, j < w → I' 22 15 j = I 22 15 j) ∧ ∃ k : Nat, p + k ≤ q.2.1 ∧ I' 21 0 28 = nI (w + k) ∧ (q.1 = true → pc_D i (w + k) g il q I')
section M49
variable {l : Launch} {E : hg_E} {d T : Nat}
variable {I : Nat → Nat → Nat → Int32} {Lg : Nat → Nat → Nat → Int64} {Rf : Nat → Nat → Nat → Option (Nat × Nat)} {X : Nat × (Nat → Nat) × (Nat → Nat → Nat)}
variable {n : Nat} {L : Nat → Int32} {I' I1 I2 : Nat → Nat → Nat → Int32}
theorem hm_c.rf {i : Nat} : hm_c i I I := ⟨fun _ _ _ => rfl, fun _ _ => rfl, fun _ _ => rfl, fun _ _ _ _ _ => rfl⟩
theorem hm_c.tr {i : Nat} (h : hm_c i I' I1) (h2 : hm_c i I1 I) : hm_c i I' I := ⟨fun q a b => (h.1 q a b).trans (h2.1 q a b), fun j a => (h.2.1 j a).trans (h2.2.1 j a), fun j a => (h.2.2.1 j a).trans (h2.2.2.1 j a), fun r j a b c => (h.2.2.2 r j a b c).trans (h2.2.2.2 r j a b c)⟩
theorem hm_p.c {i : Nat} (h : hm_p I' I) : hm_c i I' I := ⟨h.1, h.2.1, fun r hr => h.2.2 r (by omega), fun r j a b _ => by rw [h.2.2 r (by omega)]⟩
theorem hm_c.u21 {i j : Nat} {x : Int32} (h : hm_c i I' I) (hj : (16 ≤ j ∧ j ≤ 19) ∨ j = 28) : hm_c i (hg_u3 I' 21 0 j x) I := (((hm_p.rf.u21 hj).c).tr h)
theorem hm_c.u22 {i r : Nat} {x : Int32} (h : hm_c i I' I) (hr : 11 ≤ r ∧ r ≤ 14) : hm_c i (hg_u3 I' 22 r i x) I := ⟨fun q a b => by rw [← h.1 q a b]; funext y z; exact hg_u3k (fun v => b v.1), fun k hk => by rw [← h.2.1 k hk]; exact hg_u3k (by omega), fun r2 hr2 => by rw [← h.2.2.1 r2 hr2]; funext z; exact hg_u3k (fun v => hr2 (by omega)), fun r2 j a b c => by rw [← h.2.2.2 r2 j a b c]; unfold hg_u3; rw [if_neg (fun v => c v.2.2)]⟩
theorem pm_X.c {i : Nat} (h : pm_X n L I) (e : hm_c i I' I) : pm_X n L I' := by
  unfold pm_X at h ⊢; rw [e.2.1 14 (by omega), e.2.2.1 9 (by omega)]; exact h
theorem pc_sg {p : Nat} {c : Int32} {b : Int32} (h : L p = b) (hb : b ≠ c) : ps_sg n L p c = false := ps_sg_f (fun z => hb (h.symm.trans z.2))
theorem pc_cl_f {p : Nat} {g : (Nat → Int32) → Int32} {il : Int32} (hp : p < n) (h : L p = 102) : ps_cl n L p g il = ps_fe n L 1 true p g il := by
  unfold ps_cl; rw [pc_sg h (by decide), show ps_sg n L p 102 = true from decide_eq_true ⟨hp, h⟩]; rfl
theorem pc_cl_e {p : Nat} {g : (Nat → Int32) → Int32} {il : Int32} (h : L p = 101) : ps_cl n L p g il = ps_fe n L 2 false p g il := by
  unfold ps_cl; rw [pc_sg h (by decide), pc_sg h (by decide)]; rfl
theorem pc_cl_i {p : Nat} {g : (Nat → Int32) → Int32} {il : Int32} (hp : p < n) (h : L p = 105) : ps_cl n L p g il = ps_ill n L p g il := by
  unfold ps_cl; rw [show ps_sg n L p 105 = true from decide_eq_true ⟨hp, h⟩]; rfl
theorem pc_cl_n {p : Nat} {g : (Nat → Int32) → Int32} {il : Int32} (h : p < n → L p ≠ 102 ∧ L p ≠ 101 ∧ L p ≠ 105) : ps_cl n L p g il = (false, p, g, il) := by
  have s1 : ps_sg n L p 105 = false := ps_sg_f (fun z => (h z.1).2.2 z.2)
  have s2 : ps_sg n L p 102 = false := ps_sg_f (fun z => (h z.1).1 z.2)
  have s3 : ps_sg n L p (hg_sc' 2 0) = false := ps_sg_f (fun z => (h z.1).2.1 (z.2.trans (by decide)))
  have e : ps_wd n L 2 5 0 p = (false, p) := by show (if ps_sg n L p (hg_sc' 2 0) = true then _ else _) = _; rw [s3]; rfl
  unfold ps_cl; rw [s1, s2]
  show ps_fe n L 2 false p g il = _
  unfold ps_fe; rw [e]; rfl
theorem m_M_isClause {p w i : Nat} {g : (Nat → Int32) → Int32} {il : Int32} (hX : hg_XS T X) (hR : hg_SR T Rf) (hx : pm_X n L I) (hp : I 21 0 16 = nI p) (hpn : p ≤ n) (hw : I 21 0 28 = nI w) (hw6 : w ≤ 600 + p) (hi : i < 60) : hg_MC l E (d + 21) Y_M_isClause 0 0 [.ref (hg_ad E 21 0), .int (nI i)] (I, Lg, Rf, X) (hg_i (fun v M' => ∃ I' : Nat → Nat → Nat → Int32, M' = (I', Lg, Rf, X) ∧ pc_P w p i g il (ps_cl n L p g il) I I' v)) := by
  have hn100 := hx.2.2.1
  refine hg_mc k_M_isClause (Nat.le_of_ble_eq_true rfl) ?_
  show hg_WP l E _ Y_M_isClause 0 0 0 [some (.ref (hg_ad E 21 0)), some (.int (nI i)), none, none] [] (I, Lg, Rf, X) _
  refine hg_iconst (v := (-1)) d_M_isClause_0 (by decide) ?_
  refine hg_istore2 d_M_isClause_1 rfl ?_
  refine hg_aload0 d_M_isClause_2 ?_
  refine hg_getI d_M_isClause_3 f_M_139 rfl rfl (hX.lt (n := 1) ⟨by decide, by decide⟩ rfl (by omega)) ?_
  refine hg_eq1 (y := nI p) (hp) ?_
  refine hg_aload0 d_M_isClause_6 ?_
  refine hg_getI d_M_isClause_7 f_M_136 rfl rfl (hX.lt (n := 1) ⟨by decide, by decide⟩ rfl (by omega)) ?_
  refine hg_eq1 (y := nI n) (hx.1) ?_
  refine hg_icmp_ge (tgt := 69) d_M_isClause_10 (by decide) (fun h1 => ?_) (fun h1 => ?_)
  · have hcl : ps_cl n L p g il = (false, p, g, il) := pc_cl_n (fun z => absurd z (fun z => nI_ge z (by omega) h1))
    refine hg_iload2 d_M_isClause_69 ?_
    refine hg_if_ne (tgt := 82) d_M_isClause_70 (by decide) (fun h_1 => ?_) (fun h_1 => absurd (by decide) h_1)
    refine hg_iload2 d_M_isClause_82 ?_
    refine hg_iconst (v := 1) d_M_isClause_83 (by decide) ?_
    refine hg_icmp_ne (tgt := 96) d_M_isClause_84 (by decide) (fun h_2 => ?_) (fun h_2 => absurd (by decide) h_2)
    refine hg_iload2 d_M_isClause_96 ?_
    refine hg_iconst (v := 2) d_M_isClause_97 (by decide) ?_
    refine hg_icmp_ne (tgt := 114) d_M_isClause_98 (by decide) (fun h_3 => ?_) (fun h_3 => absurd (by decide) h_3)
    refine hg_iconst (v := 0) d_M_isClause_114 (by decide) ?_
    refine hg_istore3 d_M_isClause_115 rfl ?_
    refine hg_iload3 d_M_isClause_116 ?_
    refine hg_if_eq (tgt := 127) d_M_isClause_117 (by decide) (fun h_4 => ?_) (fun h_4 => absurd (by decide) h_4)
    refine hg_iconst (v := 0) d_M_isClause_127 (by decide) ?_
    refine hg_ireturn d_M_isClause_128 rfl (by decide) ?_
    rw [hcl]
    exact ⟨I, rfl, rfl, hp, hm_c.rf, fun _ _ => rfl, 0, Nat.le_refl _, hw, fun z => absurd (show false = true from z) (by decide)⟩
  · have hlt : p < n := Nat.lt_of_not_le (fun z => h1 (nI_le z (by omega)))
    refine hg_aload0 d_M_isClause_13 ?_
    refine hg_getR d_M_isClause_14 f_M_39 rfl rfl (hX.lt (n := 1) ⟨by decide, by decide⟩ rfl (by omega)) (hR.m (j := 15) (q := (22, 9)) rfl) ?_
    refine hg_aload0 d_M_isClause_17 ?_
    refine hg_getI d_M_isClause_18 f_M_139 rfl rfl (hX.lt (n := 1) ⟨by decide, by decide⟩ rfl (by omega)) ?_
    refine hg_eq1 (y := nI p) (hp) ?_
    refine hg_iald_n (j := p) d_M_isClause_21 rfl rfl (hX.lt (n := 28) ⟨by decide, by decide⟩ rfl (by omega)) (hX.jn (n := 100) (by decide) rfl (by omega)) ?_
    refine hg_eq1 (y := L p) (hx.2.1 p hlt) ?_
    refine hg_bipush (v := 102) d_M_isClause_22 (by decide) ?_
    refine hg_icmp_ne (tgt := 31) d_M_isClause_24 (by decide) (fun h102 => ?_) (fun h102 => ?_)
    · refine hg_aload0 d_M_isClause_31 ?_
      refine hg_getR d_M_isClause_32 f_M_39 rfl rfl (hX.lt (n := 1) ⟨by decide, by decide⟩ rfl (by omega)) (hR.m (j := 15) (q := (22, 9)) rfl) ?_
      refine hg_aload0 d_M_isClause_35 ?_
      refine hg_getI d_M_isClause_36 f_M_139 rfl rfl (hX.lt (n := 1) ⟨by decide, by decide⟩ rfl (by omega)) ?_
      refine hg_eq1 (y := nI p) (hp) ?_
      refine hg_iald_n (j := p) d_M_isClause_39 rfl rfl (hX.lt (n := 28) ⟨by decide, by decide⟩ rfl (by omega)) (hX.jn (n := 100) (by decide) rfl (by omega)) ?_
      refine hg_eq1 (y := L p) (hx.2.1 p hlt) ?_
      refine hg_bipush (v := 101) d_M_isClause_40 (by decide) ?_
      refine hg_icmp_ne (tgt := 49) d_M_isClause_42 (by decide) (fun h101 => ?_) (fun h101 => ?_)
      · refine hg_aload0 d_M_isClause_49 ?_
        refine hg_getR d_M_isClause_50 f_M_39 rfl rfl (hX.lt (n := 1) ⟨by decide, by decide⟩ rfl (by omega)) (hR.m (j := 15) (q := (22, 9)) rfl) ?_
        refine hg_aload0 d_M_isClause_53 ?_
        refine hg_getI d_M_isClause_54 f_M_139 rfl rfl (hX.lt (n := 1) ⟨by decide, by decide⟩ rfl (by omega)) ?_
        refine hg_eq1 (y := nI p) (hp) ?_
        refine hg_iald_n (j := p) d_M_isClause_57 rfl rfl (hX.lt (n := 28) ⟨by decide, by decide⟩ rfl (by omega)) (hX.jn (n := 100) (by decide) rfl (by omega)) ?_
        refine hg_eq1 (y := L p) (hx.2.1 p hlt) ?_
        refine hg_bipush (v := 105) d_M_isClause_58 (by decide) ?_
        refine hg_icmp_ne (tgt := 67) d_M_isClause_60 (by decide) (fun h105 => ?_) (fun h105 => ?_)
        · have hcl : ps_cl n L p g il = (false, p, g, il) := pc_cl_n (fun _ => ⟨h102, h101, h105⟩)
          refine hg_iconst (v := (-1)) d_M_isClause_67 (by decide) ?_
          refine hg_istore2 d_M_isClause_68 rfl ?_
          refine hg_iload2 d_M_isClause_69 ?_
          refine hg_if_ne (tgt := 82) d_M_isClause_70 (by decide) (fun h_5 => ?_) (fun h_5 => absurd (by decide) h_5)
          refine hg_iload2 d_M_isClause_82 ?_
          refine hg_iconst (v := 1) d_M_isClause_83 (by decide) ?_
          refine hg_icmp_ne (tgt := 96) d_M_isClause_84 (by decide) (fun h_6 => ?_) (fun h_6 => absurd (by decide) h_6)
          refine hg_iload2 d_M_isClause_96 ?_
          refine hg_iconst (v := 2) d_M_isClause_97 (by decide) ?_
          refine hg_icmp_ne (tgt := 114) d_M_isClause_98 (by decide) (fun h_7 => ?_) (fun h_7 => absurd (by decide) h_7)
          refine hg_iconst (v := 0) d_M_isClause_114 (by decide) ?_
          refine hg_istore3 d_M_isClause_115 rfl ?_
          refine hg_iload3 d_M_isClause_116 ?_
          refine hg_if_eq (tgt := 127) d_M_isClause_117 (by decide) (fun h_8 => ?_) (fun h_8 => absurd (by decide) h_8)
          refine hg_iconst (v := 0) d_M_isClause_127 (by decide) ?_
          refine hg_ireturn d_M_isClause_128 rfl (by decide) ?_
          rw [hcl]
          exact ⟨I, rfl, rfl, hp, hm_c.rf, fun _ _ => rfl, 0, Nat.le_refl _, hw, fun z => absurd (show false = true from z) (by decide)⟩
        · replace h105 := Decidable.not_not.mp h105
          have hcl : ps_cl n L p g il = ps_ill n L p g il := pc_cl_i hlt h105
          refine hg_iconst (v := 2) d_M_isClause_63 (by decide) ?_
          refine hg_goto (tgt := 68) d_M_isClause_64 (by decide) ?_
          refine hg_istore2 d_M_isClause_68 rfl ?_
          refine hg_iload2 d_M_isClause_69 ?_
          refine hg_if_ne (tgt := 82) d_M_isClause_70 (by decide) (fun h_9 => ?_) (fun h_9 => absurd (by decide) h_9)
          refine hg_iload2 d_M_isClause_82 ?_
          refine hg_iconst (v := 1) d_M_isClause_83 (by decide) ?_
          refine hg_icmp_ne (tgt := 96) d_M_isClause_84 (by decide) (fun h_10 => ?_) (fun h_10 => absurd (by decide) h_10)
          refine hg_iload2 d_M_isClause_96 ?_
          refine hg_iconst (v := 2) d_M_isClause_97 (by decide) ?_
          refine hg_icmp_ne (tgt := 114) d_M_isClause_98 (by decide) (fun h_11 => absurd h_11 (by decide)) (fun h_11 => ?_)
          refine hg_aload0 d_M_isClause_101 ?_
          refine hg_ldcS (i := 0) (tx := "ill ") d_M_isClause_102 (by decide +kernel) ?_
          refine hg_cVi d_M_isClause_104 l_M_200 rfl rfl (hX.lt (n := 1) ⟨by decide, by decide⟩ rfl (by omega)) rfl (Nat.le_of_ble_eq_true rfl) (m_M_isAll (n := n) (L := L) (t := 0) (p := p) hX hR hx hp hpn (by decide)) rfl ?_
          rintro _ _ ⟨I2, rfl, rfl, hat1, hq1⟩
          replace hat1 : I2 21 0 16 = nI (ps_wd n L 0 4 0 p).2 := hat1
          have hwl : (ps_wd n L 0 4 0 p).2 ≤ n := ps_wd_le _ _ _ hpn
          have hwg : p ≤ (ps_wd n L 0 4 0 p).2 := ps_wd_ge _ _ _
          by_cases hwd : (ps_wd n L 0 4 0 p).1 = true
          · refine hg_eq1 (y := 1) (if_pos hwd) ?_
            refine hg_if_eq (tgt := 114) d_M_isClause_107 (by decide) (fun h_12 => absurd h_12 (by decide)) (fun h_12 => ?_)
            refine hg_iconst (v := 1) d_M_isClause_110 (by decide) ?_
            refine hg_goto (tgt := 115) d_M_isClause_111 (by decide) ?_
            refine hg_istore3 d_M_isClause_115 rfl ?_
            refine hg_iload3 d_M_isClause_116 ?_
            refine hg_if_eq (tgt := 127) d_M_isClause_117 (by decide) (fun h_13 => absurd h_13 (by decide)) (fun h_13 => ?_)
            refine hg_aload0 d_M_isClause_120 ?_
            refine hg_cVi d_M_isClause_121 l_M_174 rfl rfl (hX.lt (n := 1) ⟨by decide, by decide⟩ rfl (by omega)) rfl (Nat.le_of_ble_eq_true rfl) (m_M_isNumber (n := n) (L := L) (p := (ps_wd n L 0 4 0 p).2) hX hR (hx.q hq1) hat1 hwl) rfl ?_
            rintro _ _ ⟨I3, rfl, rfl, hat2, hvl, hq2⟩
            obtain ⟨hn1, hn2, hn3⟩ := ps_nm_le (L := L) hwl
            have hv100 := pm_nm_v (p := (ps_wd n L 0 4 0 p).2) hx
            have hq3 := hq2.tr hq1
            by_cases hnm : (ps_nm n L (ps_wd n L 0 4 0 p).2).1 = true
            · refine hg_eq1 (y := 1) (if_pos hnm) ?_
              refine hg_if_ne (tgt := 129) d_M_isClause_124 (by decide) (fun h_14 => ?_) (fun h_14 => absurd (by decide) h_14)
              refine hg_aload0 d_M_isClause_129 ?_
              refine hg_getR d_M_isClause_130 f_M_45 rfl rfl (hX.lt (n := 1) ⟨by decide, by decide⟩ rfl (by omega)) (hR.m (j := 23) (q := (22, 11)) rfl) ?_
              refine hg_iload1 d_M_isClause_133 ?_
              refine hg_iload2 d_M_isClause_134 ?_
              refine hg_iast_n (j := i) d_M_isClause_135 rfl rfl (hX.lt (n := 28) ⟨by decide, by decide⟩ rfl (by omega)) (hX.jn (n := 61) (by decide) rfl (by omega)) ?_
              refine hg_aload0 d_M_isClause_136 ?_
              refine hg_getR d_M_isClause_137 f_M_48 rfl rfl (hX.lt (n := 1) ⟨by decide, by decide⟩ rfl (by omega)) (hR.m (j := 24) (q := (22, 12)) rfl) ?_
              refine hg_iload1 d_M_isClause_140 ?_
              refine hg_aload0 d_M_isClause_141 ?_
              refine hg_getI d_M_isClause_142 f_M_142 rfl rfl (hX.lt (n := 1) ⟨by decide, by decide⟩ rfl (by omega)) ?_
              refine hg_eq1 (y := I3 21 0 17) (by simp [hg_u3]) ?_
              refine hg_eq1 (y := nI (ps_nm n L (ps_wd n L 0 4 0 p).2).2.2) (hvl) ?_
              refine hg_iast_n (j := i) d_M_isClause_145 rfl rfl (hX.lt (n := 28) ⟨by decide, by decide⟩ rfl (by omega)) (hX.jn (n := 61) (by decide) rfl (by omega)) ?_
              refine hg_aload0 d_M_isClause_146 ?_
              refine hg_getR d_M_isClause_147 f_M_51 rfl rfl (hX.lt (n := 1) ⟨by decide, by decide⟩ rfl (by omega)) (hR.m (j := 25) (q := (22, 13)) rfl) ?_
              refine hg_iload1 d_M_isClause_150 ?_
              refine hg_aload0 d_M_isClause_151 ?_
              refine hg_getI d_M_isClause_152 f_M_164 rfl rfl (hX.lt (n := 1) ⟨by decide, by decide⟩ rfl (by omega)) ?_
              refine hg_eq1 (y := I3 21 0 28) (by simp [hg_u3]) ?_
              refine hg_eq1 (y := nI w) ((hq3.2 28 (by omega)).trans hw) ?_
              refine hg_iast_n (j := i) d_M_isClause_155 rfl rfl (hX.lt (n := 28) ⟨by decide, by decide⟩ rfl (by omega)) (hX.jn (n := 61) (by decide) rfl (by omega)) ?_
              refine hg_aload0 d_M_isClause_156 ?_
              refine hg_iconst (v := 0) d_M_isClause_157 (by decide) ?_
              refine hg_putI d_M_isClause_158 f_M_180 rfl rfl (Or.inl rfl) rfl rfl (hX.lt (n := 1) ⟨by decide, by decide⟩ rfl (by omega)) ?_
              refine hg_iload2 d_M_isClause_161 ?_
              refine hg_iconst (v := 2) d_M_isClause_162 (by decide) ?_
              refine hg_icmp_ge (tgt := 184) d_M_isClause_163 (by decide) (fun h_15 => ?_) (fun h_15 => absurd (by decide) h_15)
              refine hg_aload0 d_M_isClause_184 ?_
              refine hg_getR d_M_isClause_185 f_M_54 rfl rfl (hX.lt (n := 1) ⟨by decide, by decide⟩ rfl (by omega)) (hR.m (j := 26) (q := (22, 14)) rfl) ?_
              refine hg_iload1 d_M_isClause_188 ?_
              refine hg_aload0 d_M_isClause_189 ?_
              refine hg_getI d_M_isClause_190 f_M_164 rfl rfl (hX.lt (n := 1) ⟨by decide, by decide⟩ rfl (by omega)) ?_
              refine hg_eq1 (y := I3 21 0 28) (by simp [hg_u3]) ?_
              refine hg_eq1 (y := nI w) ((hq3.2 28 (by omega)).trans hw) ?_
              refine hg_aload0 d_M_isClause_193 ?_
              refine hg_getR d_M_isClause_194 f_M_51 rfl rfl (hX.lt (n := 1) ⟨by decide, by decide⟩ rfl (by omega)) (hR.m (j := 25) (q := (22, 13)) rfl) ?_
              refine hg_iload1 d_M_isClause_197 ?_
              refine hg_iald_n (j := i) d_M_isClause_198 rfl rfl (hX.lt (n := 28) ⟨by decide, by decide⟩ rfl (by omega)) (hX.jn (n := 61) (by decide) rfl (by omega)) ?_
              refine hg_eq1 (y := nI w) (by simp [hg_u3]) ?_
              refine hg_isub d_M_isClause_199 ?_
              refine hg_eq1 (y := nI 0) ((pk_sub (a := w) (b := w) (Nat.le_refl _)).trans (congrArg nI (by omega))) ?_
              refine hg_iast_n (j := i) d_M_isClause_200 rfl rfl (hX.lt (n := 28) ⟨by decide, by decide⟩ rfl (by omega)) (hX.jn (n := 61) (by decide) rfl (by omega)) ?_
              refine hg_iconst (v := 1) d_M_isClause_201 (by decide) ?_
              refine hg_ireturn d_M_isClause_202 rfl (by decide) ?_
              have hr : ps_cl n L p g il = (true, (ps_nm n L (ps_wd n L 0 4 0 p).2).2.1, g, nI (ps_nm n L (ps_wd n L 0 4 0 p).2).2.2) := hcl.trans ((if_pos hwd).trans (by rw [if_pos hnm, hnm]))
              rw [hr]
              refine ⟨_, rfl, rfl, ?_, ((((hq3.p.c.u22 (by omega)).u22 (by omega)).u22 (by omega)).u21 (Or.inl (by omega))).u22 (by omega), fun j hj => ?_, 0, by show p + 0 ≤ (ps_nm n L (ps_wd n L 0 4 0 p).2).2.1; omega, ?_, fun _ => ⟨2, (ps_nm n L (ps_wd n L 0 4 0 p).2).2.2, fun _ => false, Nat.le_refl _, ?_, by omega, ?_, fun z => absurd z (by decide), fun f => (Int32.add_zero _).symm, rfl⟩⟩
              · rw [hg_u3k (by omega), hg_u3r, if_neg (by decide), hg_u3k (by omega), hg_u3k (by omega), hg_u3k (by omega)]; exact hat2
              · rw [hg_u3k (by omega), hg_u3k (by omega), hg_u3k (by omega), hg_u3k (by omega), hg_u3k (by omega), hq3.1 22 (by decide)]
              · rw [hg_u3k (by omega), hg_u3r, if_neg (by decide), hg_u3k (by omega), hg_u3k (by omega), hg_u3k (by omega)]; exact (hq3.2 28 (by omega)).trans hw
              · rw [hg_u3k (by omega), hg_u3k (by omega), hg_u3k (by omega), hg_u3k (by omega), hg_u3s]; rfl
              · rw [hg_u3k (by omega), hg_u3k (by omega), hg_u3k (by omega), hg_u3s]
            · refine hg_eq1 (y := 0) (if_neg hnm) ?_
              refine hg_if_ne (tgt := 129) d_M_isClause_124 (by decide) (fun h_16 => absurd h_16 (by decide)) (fun h_16 => ?_)
              refine hg_iconst (v := 0) d_M_isClause_127 (by decide) ?_
              refine hg_ireturn d_M_isClause_128 rfl (by decide) ?_
              have hr : ps_cl n L p g il = (false, (ps_nm n L (ps_wd n L 0 4 0 p).2).2.1, g, il) := hcl.trans ((if_pos hwd).trans (by rw [if_neg hnm, Bool.eq_false_iff.mpr hnm]))
              rw [hr]
              exact ⟨_, rfl, rfl, hat2, hq3.p.c, fun j _ => by rw [hq3.1 22 (by decide)], 0, by show p + 0 ≤ (ps_nm n L (ps_wd n L 0 4 0 p).2).2.1; omega, (hq3.2 28 (by omega)).trans hw, fun z => absurd (show false = true from z) (by decide)⟩
          · refine hg_eq1 (y := 0) (if_neg hwd) ?_
            refine hg_if_eq (tgt := 114) d_M_isClause_107 (by decide) (fun h_17 => ?_) (fun h_17 => absurd (by decide) h_17)
            refine hg_iconst (v := 0) d_M_isClause_114 (by decide) ?_
            refine hg_istore3 d_M_isClause_115 rfl ?_
            refine hg_iload3 d_M_isClause_116 ?_
            refine hg_if_eq (tgt := 127) d_M_isClause_117 (by decide) (fun h_18 => ?_) (fun h_18 => absurd (by decide) h_18)
            refine hg_iconst (v := 0) d_M_isClause_127 (by decide) ?_
            refine hg_ireturn d_M_isClause_128 rfl (by decide) ?_
            have hr : ps_cl n L p g il = (false, (ps_wd n L 0 4 0 p).2, g, il) := hcl.trans (if_neg hwd)
            rw [hr]
            exact ⟨_, rfl, rfl, hat1, hq1.p.c, fun j _ => by rw [hq1.1 22 (by decide)], 0, by show p + 0 ≤ (ps_wd n L 0 4 0 p).2; omega, (hq1.2 28 (by omega)).trans hw, fun z => absurd (show false = true from z) (by decide)⟩
      · replace h101 := Decidable.not_not.mp h101
        have hcl : ps_cl n L p g il = ps_fe n L 2 false p g il := pc_cl_e h101
        refine hg_iconst (v := 1) d_M_isClause_45 (by decide) ?_
        refine hg_goto (tgt := 68) d_M_isClause_46 (by decide) ?_
        refine hg_istore2 d_M_isClause_68 rfl ?_
        refine hg_iload2 d_M_isClause_69 ?_
        refine hg_if_ne (tgt := 82) d_M_isClause_70 (by decide) (fun h_19 => ?_) (fun h_19 => absurd (by decide) h_19)
        refine hg_iload2 d_M_isClause_82 ?_
        refine hg_iconst (v := 1) d_M_isClause_83 (by decide) ?_
        refine hg_icmp_ne (tgt := 96) d_M_isClause_84 (by decide) (fun h_20 => absurd h_20 (by decide)) (fun h_20 => ?_)
        refine hg_aload0 d_M_isClause_87 ?_
        refine hg_ldcS (i := 2) (tx := "ease ") d_M_isClause_88 (by decide +kernel) ?_
        refine hg_cVi d_M_isClause_90 l_M_200 rfl rfl (hX.lt (n := 1) ⟨by decide, by decide⟩ rfl (by omega)) rfl (Nat.le_of_ble_eq_true rfl) (m_M_isAll (n := n) (L := L) (t := 2) (p := p) hX hR hx hp hpn (by decide)) rfl ?_
        rintro _ _ ⟨I2, rfl, rfl, hat1, hq1⟩
        replace hat1 : I2 21 0 16 = nI (ps_wd n L 2 5 0 p).2 := hat1
        have hwl : (ps_wd n L 2 5 0 p).2 ≤ n := ps_wd_le _ _ _ hpn
        have hwg : p ≤ (ps_wd n L 2 5 0 p).2 := ps_wd_ge _ _ _
        by_cases hwd : (ps_wd n L 2 5 0 p).1 = true
        · refine hg_eq1 (y := 1) (if_pos hwd) ?_
          refine hg_goto (tgt := 115) d_M_isClause_93 (by decide) ?_
          refine hg_istore3 d_M_isClause_115 rfl ?_
          refine hg_iload3 d_M_isClause_116 ?_
          refine hg_if_eq (tgt := 127) d_M_isClause_117 (by decide) (fun h_21 => absurd h_21 (by decide)) (fun h_21 => ?_)
          refine hg_aload0 d_M_isClause_120 ?_
          refine hg_cVi d_M_isClause_121 l_M_174 rfl rfl (hX.lt (n := 1) ⟨by decide, by decide⟩ rfl (by omega)) rfl (Nat.le_of_ble_eq_true rfl) (m_M_isNumber (n := n) (L := L) (p := (ps_wd n L 2 5 0 p).2) hX hR (hx.q hq1) hat1 hwl) rfl ?_
          rintro _ _ ⟨I3, rfl, rfl, hat2, hvl, hq2⟩
          obtain ⟨hn1, hn2, hn3⟩ := ps_nm_le (L := L) hwl
          have hv100 := pm_nm_v (p := (ps_wd n L 2 5 0 p).2) hx
          have hq3 := hq2.tr hq1
          by_cases hnm : (ps_nm n L (ps_wd n L 2 5 0 p).2).1 = true
          · refine hg_eq1 (y := 1) (if_pos hnm) ?_
            refine hg_if_ne (tgt := 129) d_M_isClause_124 (by decide) (fun h_22 => ?_) (fun h_22 => absurd (by decide) h_22)
            refine hg_aload0 d_M_isClause_129 ?_
            refine hg_getR d_M_isClause_130 f_M_45 rfl rfl (hX.lt (n := 1) ⟨by decide, by decide⟩ rfl (by omega)) (hR.m (j := 23) (q := (22, 11)) rfl) ?_
            refine hg_iload1 d_M_isClause_133 ?_
            refine hg_iload2 d_M_isClause_134 ?_
            refine hg_iast_n (j := i) d_M_isClause_135 rfl rfl (hX.lt (n := 28) ⟨by decide, by decide⟩ rfl (by omega)) (hX.jn (n := 61) (by decide) rfl (by omega)) ?_
            refine hg_aload0 d_M_isClause_136 ?_
            refine hg_getR d_M_isClause_137 f_M_48 rfl rfl (hX.lt (n := 1) ⟨by decide, by decide⟩ rfl (by omega)) (hR.m (j := 24) (q := (22, 12)) rfl) ?_
            refine hg_iload1 d_M_isClause_140 ?_
            refine hg_aload0 d_M_isClause_141 ?_
            refine hg_getI d_M_isClause_142 f_M_142 rfl rfl (hX.lt (n := 1) ⟨by decide, by decide⟩ rfl (by omega)) ?_
            refine hg_eq1 (y := I3 21 0 17) (by simp [hg_u3]) ?_
            refine hg_eq1 (y := nI (ps_nm n L (ps_wd n L 2 5 0 p).2).2.2) (hvl) ?_
            refine hg_iast_n (j := i) d_M_isClause_145 rfl rfl (hX.lt (n := 28) ⟨by decide, by decide⟩ rfl (by omega)) (hX.jn (n := 61) (by decide) rfl (by omega)) ?_
            refine hg_aload0 d_M_isClause_146 ?_
            refine hg_getR d_M_isClause_147 f_M_51 rfl rfl (hX.lt (n := 1) ⟨by decide, by decide⟩ rfl (by omega)) (hR.m (j := 25) (q := (22, 13)) rfl) ?_
            refine hg_iload1 d_M_isClause_150 ?_
            refine hg_aload0 d_M_isClause_151 ?_
            refine hg_getI d_M_isClause_152 f_M_164 rfl rfl (hX.lt (n := 1) ⟨by decide, by decide⟩ rfl (by omega)) ?_
            refine hg_eq1 (y := I3 21 0 28) (by simp [hg_u3]) ?_
            refine hg_eq1 (y := nI w) ((hq3.2 28 (by omega)).trans hw) ?_
            refine hg_iast_n (j := i) d_M_isClause_155 rfl rfl (hX.lt (n := 28) ⟨by decide, by decide⟩ rfl (by omega)) (hX.jn (n := 61) (by decide) rfl (by omega)) ?_
            refine hg_aload0 d_M_isClause_156 ?_
            refine hg_iconst (v := 0) d_M_isClause_157 (by decide) ?_
            refine hg_putI d_M_isClause_158 f_M_180 rfl rfl (Or.inl rfl) rfl rfl (hX.lt (n := 1) ⟨by decide, by decide⟩ rfl (by omega)) ?_
            refine hg_iload2 d_M_isClause_161 ?_
            refine hg_iconst (v := 2) d_M_isClause_162 (by decide) ?_
            refine hg_icmp_ge (tgt := 184) d_M_isClause_163 (by decide) (fun h_23 => absurd h_23 (by decide)) (fun h_23 => ?_)
            refine hg_aload0 d_M_isClause_166 ?_
            refine hg_bipush (v := 32) d_M_isClause_167 (by decide) ?_
            have hc3 : hm_c i (hg_u3 (hg_u3 (hg_u3 (hg_u3 I3 22 11 i 1) 22 12 i (nI (ps_nm n L (ps_wd n L 2 5 0 p).2).2.2)) 22 13 i (nI w)) 21 0 19 0) I := ((((hq3.p.c.u22 (by omega)).u22 (by omega)).u22 (by omega)).u21 (Or.inl (by omega)))
            refine hg_cVi d_M_isClause_169 l_M_161 rfl rfl (hX.lt (n := 1) ⟨by decide, by decide⟩ rfl (by omega)) rfl (Nat.le_of_ble_eq_true rfl) (m_M_is (n := n) (L := L) (p := (ps_nm n L (ps_wd n L 2 5 0 p).2).2.1) (c := 32) hX hR (hx.c hc3) (by rw [hg_u3r, if_neg (by decide), hg_u3k (by omega), hg_u3k (by omega), hg_u3k (by omega)]; exact hat2) hn2) rfl ?_
            rintro _ _ (⟨hsp, rfl, rfl⟩ | ⟨hsp, rfl, rfl⟩)
            · have hlt3 := (ps_sg_t hsp).1
              refine hg_if_eq (tgt := 182) d_M_isClause_172 (by decide) (fun h_24 => absurd h_24 (by decide)) (fun h_24 => ?_)
              refine hg_aload0 d_M_isClause_175 ?_
              have hc4 : hm_c i (hg_u3 (hg_u3 (hg_u3 (hg_u3 (hg_u3 I3 22 11 i 1) 22 12 i (nI (ps_nm n L (ps_wd n L 2 5 0 p).2).2.2)) 22 13 i (nI w)) 21 0 19 0) 21 0 16 (nI ((ps_nm n L (ps_wd n L 2 5 0 p).2).2.1 + 1))) I := hc3.u21 (Or.inl (by omega))
              refine hg_cVi d_M_isClause_176 l_M_189 rfl rfl (hX.lt (n := 1) ⟨by decide, by decide⟩ rfl (by omega)) rfl (Nat.le_of_ble_eq_true rfl) (m_M_isE4 hX hR ((ps_nm n L (ps_wd n L 2 5 0 p).2).2.1 + 1) w _ (hx.c hc4) (by rw [hg_u3s]) (by omega) (by rw [hg_u3r, if_neg (by decide), hg_u3r, if_neg (by decide), hg_u3k (by omega), hg_u3k (by omega), hg_u3k (by omega)]; exact (hq3.2 28 (by omega)).trans hw) (by omega) (by rw [hg_u3r, if_neg (by decide), hg_u3s]; rfl)) rfl ?_
              rintro _ _ ⟨I4, rfl, rfl, bat, bop, bfr, blo, bk, bpk, bcd, bme⟩
              have hE2 := (ps_E_ok (L := L) (ps_F_ok n L 4) ((ps_nm n L (ps_wd n L 2 5 0 p).2).2.1 + 1) (by omega)).2.1
              by_cases bu : (ps_E n L (ps_F n L 4) ((ps_nm n L (ps_wd n L 2 5 0 p).2).2.1 + 1)).1 = true
              · refine hg_eq1 (y := 1) (if_pos bu) ?_
                refine hg_if_ne (tgt := 184) d_M_isClause_179 (by decide) (fun h_25 => ?_) (fun h_25 => absurd (by decide) h_25)
                refine hg_aload0 d_M_isClause_184 ?_
                refine hg_getR d_M_isClause_185 f_M_54 rfl rfl (hX.lt (n := 1) ⟨by decide, by decide⟩ rfl (by omega)) (hR.m (j := 26) (q := (22, 14)) rfl) ?_
                refine hg_iload1 d_M_isClause_188 ?_
                refine hg_aload0 d_M_isClause_189 ?_
                refine hg_getI d_M_isClause_190 f_M_164 rfl rfl (hX.lt (n := 1) ⟨by decide, by decide⟩ rfl (by omega)) ?_
                refine hg_eq1 (y := nI (w + bk)) (bcd) ?_
                refine hg_aload0 d_M_isClause_193 ?_
                refine hg_getR d_M_isClause_194 f_M_51 rfl rfl (hX.lt (n := 1) ⟨by decide, by decide⟩ rfl (by omega)) (hR.m (j := 25) (q := (22, 13)) rfl) ?_
                refine hg_iload1 d_M_isClause_197 ?_
                refine hg_iald_n (j := i) d_M_isClause_198 rfl rfl (hX.lt (n := 28) ⟨by decide, by decide⟩ rfl (by omega)) (hX.jn (n := 61) (by decide) rfl (by omega)) ?_
                refine hg_eq1 (y := nI w) (by rw [bfr.2.2 13 (by decide), hg_u3k (by omega), hg_u3k (by omega), hg_u3s]) ?_
                refine hg_isub d_M_isClause_199 ?_
                refine hg_eq1 (y := nI bk) ((pk_sub (a := w + bk) (b := w) (by omega)).trans (congrArg nI (by omega))) ?_
                refine hg_iast_n (j := i) d_M_isClause_200 rfl rfl (hX.lt (n := 28) ⟨by decide, by decide⟩ rfl (by omega)) (hX.jn (n := 61) (by decide) rfl (by omega)) ?_
                refine hg_iconst (v := 1) d_M_isClause_201 (by decide) ?_
                refine hg_ireturn d_M_isClause_202 rfl (by decide) ?_
                have hr : ps_cl n L p g il = ((ps_E n L (ps_F n L 4) ((ps_nm n L (ps_wd n L 2 5 0 p).2).2.1 + 1)).1, (ps_E n L (ps_F n L 4) ((ps_nm n L (ps_wd n L 2 5 0 p).2).2.1 + 1)).2.1, (fun f => g f + (if (ps_E n L (ps_F n L 4) ((ps_nm n L (ps_wd n L 2 5 0 p).2).2.1 + 1)).2.2 f = true then (if false = true then nI (ps_nm n L (ps_wd n L 2 5 0 p).2).2.2 else -nI (ps_nm n L (ps_wd n L 2 5 0 p).2).2.2) else 0)), il) := hcl.trans ((if_pos hwd).trans ((if_pos hnm).trans (if_pos hsp)))
                rw [hr]
                have hlow : ∀ j, j < w → I4 22 15 j = I 22 15 j := fun j hj => (blo j hj).trans (by rw [hg_u3k (by omega), hg_u3k (by omega), hg_u3k (by omega), hg_u3k (by omega), hg_u3k (by omega), hq3.1 22 (by decide)])
                refine ⟨_, rfl, (if_pos bu).symm, ?_, (bfr.c.tr hc4).u22 (by omega), fun j hj => ?_, bk, by show p + bk ≤ (ps_E n L (ps_F n L 4) ((ps_nm n L (ps_wd n L 2 5 0 p).2).2.1 + 1)).2.1; omega, ?_, fun _ => ⟨1, (ps_nm n L (ps_wd n L 2 5 0 p).2).2.2, (ps_E n L (ps_F n L 4) ((ps_nm n L (ps_wd n L 2 5 0 p).2).2.1 + 1)).2.2, by decide, ?_, by omega, ?_, fun _ => ⟨w, bk, Nat.le_refl _, by omega, ?_, ?_, ?_⟩, fun f => rfl, rfl⟩⟩
                · rw [hg_u3k (by omega)]; exact bat
                · rw [hg_u3k (by omega)]; exact hlow j hj
                · rw [hg_u3k (by omega)]; exact bcd
                · rw [hg_u3k (by omega), bfr.2.2 11 (by decide), hg_u3k (by omega), hg_u3k (by omega), hg_u3k (by omega), hg_u3k (by omega), hg_u3s]; rfl
                · rw [hg_u3k (by omega), bfr.2.2 12 (by decide), hg_u3k (by omega), hg_u3k (by omega), hg_u3k (by omega), hg_u3s]
                · rw [hg_u3k (by omega), bfr.2.2 13 (by decide), hg_u3k (by omega), hg_u3k (by omega), hg_u3s]
                · rw [hg_u3s]
                · exact (bme bu).cg (fun j h1 h2 => hg_u3k (by omega))
              · refine hg_eq1 (y := 0) (if_neg bu) ?_
                refine hg_if_ne (tgt := 184) d_M_isClause_179 (by decide) (fun h_26 => absurd h_26 (by decide)) (fun h_26 => ?_)
                refine hg_iconst (v := 0) d_M_isClause_182 (by decide) ?_
                refine hg_ireturn d_M_isClause_183 rfl (by decide) ?_
                have hr : ps_cl n L p g il = ((ps_E n L (ps_F n L 4) ((ps_nm n L (ps_wd n L 2 5 0 p).2).2.1 + 1)).1, (ps_E n L (ps_F n L 4) ((ps_nm n L (ps_wd n L 2 5 0 p).2).2.1 + 1)).2.1, (fun f => g f + (if (ps_E n L (ps_F n L 4) ((ps_nm n L (ps_wd n L 2 5 0 p).2).2.1 + 1)).2.2 f = true then (if false = true then nI (ps_nm n L (ps_wd n L 2 5 0 p).2).2.2 else -nI (ps_nm n L (ps_wd n L 2 5 0 p).2).2.2) else 0)), il) := hcl.trans ((if_pos hwd).trans ((if_pos hnm).trans (if_pos hsp)))
                rw [hr]
                have hlow : ∀ j, j < w → I4 22 15 j = I 22 15 j := fun j hj => (blo j hj).trans (by rw [hg_u3k (by omega), hg_u3k (by omega), hg_u3k (by omega), hg_u3k (by omega), hg_u3k (by omega), hq3.1 22 (by decide)])
                exact ⟨I4, rfl, (if_neg bu).symm, bat, bfr.c.tr hc4, hlow, bk, by show p + bk ≤ (ps_E n L (ps_F n L 4) ((ps_nm n L (ps_wd n L 2 5 0 p).2).2.1 + 1)).2.1; omega, bcd, fun z => absurd z bu⟩
            · refine hg_if_eq (tgt := 182) d_M_isClause_172 (by decide) (fun h_27 => ?_) (fun h_27 => absurd (by decide) h_27)
              refine hg_iconst (v := 0) d_M_isClause_182 (by decide) ?_
              refine hg_ireturn d_M_isClause_183 rfl (by decide) ?_
              have hr : ps_cl n L p g il = (false, (ps_nm n L (ps_wd n L 2 5 0 p).2).2.1, g, il) := hcl.trans ((if_pos hwd).trans ((if_pos hnm).trans (if_neg (by rw [hsp]; decide))))
              rw [hr]
              refine ⟨_, rfl, rfl, ?_, hc3, fun j hj => ?_, 0, by show p + 0 ≤ (ps_nm n L (ps_wd n L 2 5 0 p).2).2.1; omega, ?_, fun z => absurd (show false = true from z) (by decide)⟩
              · rw [hg_u3r, if_neg (by decide), hg_u3k (by omega), hg_u3k (by omega), hg_u3k (by omega)]; exact hat2
              · rw [hg_u3k (by omega), hg_u3k (by omega), hg_u3k (by omega), hg_u3k (by omega), hq3.1 22 (by decide)]
              · rw [hg_u3r, if_neg (by decide), hg_u3k (by omega), hg_u3k (by omega), hg_u3k (by omega)]; exact (hq3.2 28 (by omega)).trans hw
          · refine hg_eq1 (y := 0) (if_neg hnm) ?_
            refine hg_if_ne (tgt := 129) d_M_isClause_124 (by decide) (fun h_28 => absurd h_28 (by decide)) (fun h_28 => ?_)
            refine hg_iconst (v := 0) d_M_isClause_127 (by decide) ?_
            refine hg_ireturn d_M_isClause_128 rfl (by decide) ?_
            have hr : ps_cl n L p g il = (false, (ps_nm n L (ps_wd n L 2 5 0 p).2).2.1, g, il) := hcl.trans ((if_pos hwd).trans (if_neg hnm))
            rw [hr]
            exact ⟨_, rfl, rfl, hat2, hq3.p.c, fun j _ => by rw [hq3.1 22 (by decide)], 0, by show p + 0 ≤ (ps_nm n L (ps_wd n L 2 5 0 p).2).2.1; omega, (hq3.2 28 (by omega)).trans hw, fun z => absurd (show false = true from z) (by decide)⟩
        · refine hg_eq1 (y := 0) (if_neg hwd) ?_
          refine hg_goto (tgt := 115) d_M_isClause_93 (by decide) ?_
          refine hg_istore3 d_M_isClause_115 rfl ?_
          refine hg_iload3 d_M_isClause_116 ?_
          refine hg_if_eq (tgt := 127) d_M_isClause_117 (by decide) (fun h_29 => ?_) (fun h_29 => absurd (by decide) h_29)
          refine hg_iconst (v := 0) d_M_isClause_127 (by decide) ?_
          refine hg_ireturn d_M_isClause_128 rfl (by decide) ?_
          have hr : ps_cl n L p g il = (false, (ps_wd n L 2 5 0 p).2, g, il) := hcl.trans (if_neg hwd)
          rw [hr]
          exact ⟨_, rfl, rfl, hat1, hq1.p.c, fun j _ => by rw [hq1.1 22 (by decide)], 0, by show p + 0 ≤ (ps_wd n L 2 5 0 p).2; omega, (hq1.2 28 (by omega)).trans hw, fun z => absurd (show false = true from z) (by decide)⟩
    · replace h102 := Decidable.not_not.mp h102
      have hcl : ps_cl n L p g il = ps_fe n L 1 true p g il := pc_cl_f hlt h102
      refine hg_iconst (v := 0) d_M_isClause_27 (by decide) ?_
      refine hg_goto (tgt := 68) d_M_isClause_28 (by decide) ?_
      refine hg_istore2 d_M_isClause_68 rfl ?_
      refine hg_iload2 d_M_isClause_69 ?_
      refine hg_if_ne (tgt := 82) d_M_isClause_70 (by decide) (fun h_30 => absurd h_30 (by decide)) (fun h_30 => ?_)
      refine hg_aload0 d_M_isClause_73 ?_
      refine hg_ldcS (i := 1) (tx := "fear ") d_M_isClause_74 (by decide +kernel) ?_
      refine hg_cVi d_M_isClause_76 l_M_200 rfl rfl (hX.lt (n := 1) ⟨by decide, by decide⟩ rfl (by omega)) rfl (Nat.le_of_ble_eq_true rfl) (m_M_isAll (n := n) (L := L) (t := 1) (p := p) hX hR hx hp hpn (by decide)) rfl ?_
      rintro _ _ ⟨I2, rfl, rfl, hat1, hq1⟩
      replace hat1 : I2 21 0 16 = nI (ps_wd n L 1 5 0 p).2 := hat1
      have hwl : (ps_wd n L 1 5 0 p).2 ≤ n := ps_wd_le _ _ _ hpn
      have hwg : p ≤ (ps_wd n L 1 5 0 p).2 := ps_wd_ge _ _ _
      by_cases hwd : (ps_wd n L 1 5 0 p).1 = true
      · refine hg_eq1 (y := 1) (if_pos hwd) ?_
        refine hg_goto (tgt := 115) d_M_isClause_79 (by decide) ?_
        refine hg_istore3 d_M_isClause_115 rfl ?_
        refine hg_iload3 d_M_isClause_116 ?_
        refine hg_if_eq (tgt := 127) d_M_isClause_117 (by decide) (fun h_31 => absurd h_31 (by decide)) (fun h_31 => ?_)
        refine hg_aload0 d_M_isClause_120 ?_
        refine hg_cVi d_M_isClause_121 l_M_174 rfl rfl (hX.lt (n := 1) ⟨by decide, by decide⟩ rfl (by omega)) rfl (Nat.le_of_ble_eq_true rfl) (m_M_isNumber (n := n) (L := L) (p := (ps_wd n L 1 5 0 p).2) hX hR (hx.q hq1) hat1 hwl) rfl ?_
        rintro _ _ ⟨I3, rfl, rfl, hat2, hvl, hq2⟩
        obtain ⟨hn1, hn2, hn3⟩ := ps_nm_le (L := L) hwl
        have hv100 := pm_nm_v (p := (ps_wd n L 1 5 0 p).2) hx
        have hq3 := hq2.tr hq1
        by_cases hnm : (ps_nm n L (ps_wd n L 1 5 0 p).2).1 = true
        · refine hg_eq1 (y := 1) (if_pos hnm) ?_
          refine hg_if_ne (tgt := 129) d_M_isClause_124 (by decide) (fun h_32 => ?_) (fun h_32 => absurd (by decide) h_32)
          refine hg_aload0 d_M_isClause_129 ?_
          refine hg_getR d_M_isClause_130 f_M_45 rfl rfl (hX.lt (n := 1) ⟨by decide, by decide⟩ rfl (by omega)) (hR.m (j := 23) (q := (22, 11)) rfl) ?_
          refine hg_iload1 d_M_isClause_133 ?_
          refine hg_iload2 d_M_isClause_134 ?_
          refine hg_iast_n (j := i) d_M_isClause_135 rfl rfl (hX.lt (n := 28) ⟨by decide, by decide⟩ rfl (by omega)) (hX.jn (n := 61) (by decide) rfl (by omega)) ?_
          refine hg_aload0 d_M_isClause_136 ?_
          refine hg_getR d_M_isClause_137 f_M_48 rfl rfl (hX.lt (n := 1) ⟨by decide, by decide⟩ rfl (by omega)) (hR.m (j := 24) (q := (22, 12)) rfl) ?_
          refine hg_iload1 d_M_isClause_140 ?_
          refine hg_aload0 d_M_isClause_141 ?_
          refine hg_getI d_M_isClause_142 f_M_142 rfl rfl (hX.lt (n := 1) ⟨by decide, by decide⟩ rfl (by omega)) ?_
          refine hg_eq1 (y := I3 21 0 17) (by simp [hg_u3]) ?_
          refine hg_eq1 (y := nI (ps_nm n L (ps_wd n L 1 5 0 p).2).2.2) (hvl) ?_
          refine hg_iast_n (j := i) d_M_isClause_145 rfl rfl (hX.lt (n := 28) ⟨by decide, by decide⟩ rfl (by omega)) (hX.jn (n := 61) (by decide) rfl (by omega)) ?_
          refine hg_aload0 d_M_isClause_146 ?_
          refine hg_getR d_M_isClause_147 f_M_51 rfl rfl (hX.lt (n := 1) ⟨by decide, by decide⟩ rfl (by omega)) (hR.m (j := 25) (q := (22, 13)) rfl) ?_
          refine hg_iload1 d_M_isClause_150 ?_
          refine hg_aload0 d_M_isClause_151 ?_
          refine hg_getI d_M_isClause_152 f_M_164 rfl rfl (hX.lt (n := 1) ⟨by decide, by decide⟩ rfl (by omega)) ?_
          refine hg_eq1 (y := I3 21 0 28) (by simp [hg_u3]) ?_
          refine hg_eq1 (y := nI w) ((hq3.2 28 (by omega)).trans hw) ?_
          refine hg_iast_n (j := i) d_M_isClause_155 rfl rfl (hX.lt (n := 28) ⟨by decide, by decide⟩ rfl (by omega)) (hX.jn (n := 61) (by decide) rfl (by omega)) ?_
          refine hg_aload0 d_M_isClause_156 ?_
          refine hg_iconst (v := 0) d_M_isClause_157 (by decide) ?_
          refine hg_putI d_M_isClause_158 f_M_180 rfl rfl (Or.inl rfl) rfl rfl (hX.lt (n := 1) ⟨by decide, by decide⟩ rfl (by omega)) ?_
          refine hg_iload2 d_M_isClause_161 ?_
          refine hg_iconst (v := 2) d_M_isClause_162 (by decide) ?_
          refine hg_icmp_ge (tgt := 184) d_M_isClause_163 (by decide) (fun h_33 => absurd h_33 (by decide)) (fun h_33 => ?_)
          refine hg_aload0 d_M_isClause_166 ?_
          refine hg_bipush (v := 32) d_M_isClause_167 (by decide) ?_
          have hc3 : hm_c i (hg_u3 (hg_u3 (hg_u3 (hg_u3 I3 22 11 i 0) 22 12 i (nI (ps_nm n L (ps_wd n L 1 5 0 p).2).2.2)) 22 13 i (nI w)) 21 0 19 0) I := ((((hq3.p.c.u22 (by omega)).u22 (by omega)).u22 (by omega)).u21 (Or.inl (by omega)))
          refine hg_cVi d_M_isClause_169 l_M_161 rfl rfl (hX.lt (n := 1) ⟨by decide, by decide⟩ rfl (by omega)) rfl (Nat.le_of_ble_eq_true rfl) (m_M_is (n := n) (L := L) (p := (ps_nm n L (ps_wd n L 1 5 0 p).2).2.1) (c := 32) hX hR (hx.c hc3) (by rw [hg_u3r, if_neg (by decide), hg_u3k (by omega), hg_u3k (by omega), hg_u3k (by omega)]; exact hat2) hn2) rfl ?_
          rintro _ _ (⟨hsp, rfl, rfl⟩ | ⟨hsp, rfl, rfl⟩)
          · have hlt3 := (ps_sg_t hsp).1
            refine hg_if_eq (tgt := 182) d_M_isClause_172 (by decide) (fun h_34 => absurd h_34 (by decide)) (fun h_34 => ?_)
            refine hg_aload0 d_M_isClause_175 ?_
            have hc4 : hm_c i (hg_u3 (hg_u3 (hg_u3 (hg_u3 (hg_u3 I3 22 11 i 0) 22 12 i (nI (ps_nm n L (ps_wd n L 1 5 0 p).2).2.2)) 22 13 i (nI w)) 21 0 19 0) 21 0 16 (nI ((ps_nm n L (ps_wd n L 1 5 0 p).2).2.1 + 1))) I := hc3.u21 (Or.inl (by omega))
            refine hg_cVi d_M_isClause_176 l_M_189 rfl rfl (hX.lt (n := 1) ⟨by decide, by decide⟩ rfl (by omega)) rfl (Nat.le_of_ble_eq_true rfl) (m_M_isE4 hX hR ((ps_nm n L (ps_wd n L 1 5 0 p).2).2.1 + 1) w _ (hx.c hc4) (by rw [hg_u3s]) (by omega) (by rw [hg_u3r, if_neg (by decide), hg_u3r, if_neg (by decide), hg_u3k (by omega), hg_u3k (by omega), hg_u3k (by omega)]; exact (hq3.2 28 (by omega)).trans hw) (by omega) (by rw [hg_u3r, if_neg (by decide), hg_u3s]; rfl)) rfl ?_
            rintro _ _ ⟨I4, rfl, rfl, bat, bop, bfr, blo, bk, bpk, bcd, bme⟩
            have hE2 := (ps_E_ok (L := L) (ps_F_ok n L 4) ((ps_nm n L (ps_wd n L 1 5 0 p).2).2.1 + 1) (by omega)).2.1
            by_cases bu : (ps_E n L (ps_F n L 4) ((ps_nm n L (ps_wd n L 1 5 0 p).2).2.1 + 1)).1 = true
            · refine hg_eq1 (y := 1) (if_pos bu) ?_
              refine hg_if_ne (tgt := 184) d_M_isClause_179 (by decide) (fun h_35 => ?_) (fun h_35 => absurd (by decide) h_35)
              refine hg_aload0 d_M_isClause_184 ?_
              refine hg_getR d_M_isClause_185 f_M_54 rfl rfl (hX.lt (n := 1) ⟨by decide, by decide⟩ rfl (by omega)) (hR.m (j := 26) (q := (22, 14)) rfl) ?_
              refine hg_iload1 d_M_isClause_188 ?_
              refine hg_aload0 d_M_isClause_189 ?_
              refine hg_getI d_M_isClause_190 f_M_164 rfl rfl (hX.lt (n := 1) ⟨by decide, by decide⟩ rfl (by omega)) ?_
              refine hg_eq1 (y := nI (w + bk)) (bcd) ?_
              refine hg_aload0 d_M_isClause_193 ?_
              refine hg_getR d_M_isClause_194 f_M_51 rfl rfl (hX.lt (n := 1) ⟨by decide, by decide⟩ rfl (by omega)) (hR.m (j := 25) (q := (22, 13)) rfl) ?_
              refine hg_iload1 d_M_isClause_197 ?_
              refine hg_iald_n (j := i) d_M_isClause_198 rfl rfl (hX.lt (n := 28) ⟨by decide, by decide⟩ rfl (by omega)) (hX.jn (n := 61) (by decide) rfl (by omega)) ?_
              refine hg_eq1 (y := nI w) (by rw [bfr.2.2 13 (by decide), hg_u3k (by omega), hg_u3k (by omega), hg_u3s]) ?_
              refine hg_isub d_M_isClause_199 ?_
              refine hg_eq1 (y := nI bk) ((pk_sub (a := w + bk) (b := w) (by omega)).trans (congrArg nI (by omega))) ?_
              refine hg_iast_n (j := i) d_M_isClause_200 rfl rfl (hX.lt (n := 28) ⟨by decide, by decide⟩ rfl (by omega)) (hX.jn (n := 61) (by decide) rfl (by omega)) ?_
              refine hg_iconst (v := 1) d_M_isClause_201 (by decide) ?_
              refine hg_ireturn d_M_isClause_202 rfl (by decide) ?_
              have hr : ps_cl n L p g il = ((ps_E n L (ps_F n L 4) ((ps_nm n L (ps_wd n L 1 5 0 p).2).2.1 + 1)).1, (ps_E n L (ps_F n L 4) ((ps_nm n L (ps_wd n L 1 5 0 p).2).2.1 + 1)).2.1, (fun f => g f + (if (ps_E n L (ps_F n L 4) ((ps_nm n L (ps_wd n L 1 5 0 p).2).2.1 + 1)).2.2 f = true then (if true = true then nI (ps_nm n L (ps_wd n L 1 5 0 p).2).2.2 else -nI (ps_nm n L (ps_wd n L 1 5 0 p).2).2.2) else 0)), il) := hcl.trans ((if_pos hwd).trans ((if_pos hnm).trans (if_pos hsp)))
              rw [hr]
              have hlow : ∀ j, j < w → I4 22 15 j = I 22 15 j := fun j hj => (blo j hj).trans (by rw [hg_u3k (by omega), hg_u3k (by omega), hg_u3k (by omega), hg_u3k (by omega), hg_u3k (by omega), hq3.1 22 (by decide)])
              refine ⟨_, rfl, (if_pos bu).symm, ?_, (bfr.c.tr hc4).u22 (by omega), fun j hj => ?_, bk, by show p + bk ≤ (ps_E n L (ps_F n L 4) ((ps_nm n L (ps_wd n L 1 5 0 p).2).2.1 + 1)).2.1; omega, ?_, fun _ => ⟨0, (ps_nm n L (ps_wd n L 1 5 0 p).2).2.2, (ps_E n L (ps_F n L 4) ((ps_nm n L (ps_wd n L 1 5 0 p).2).2.1 + 1)).2.2, by decide, ?_, by omega, ?_, fun _ => ⟨w, bk, Nat.le_refl _, by omega, ?_, ?_, ?_⟩, fun f => rfl, rfl⟩⟩
              · rw [hg_u3k (by omega)]; exact bat
              · rw [hg_u3k (by omega)]; exact hlow j hj
              · rw [hg_u3k (by omega)]; exact bcd
              · rw [hg_u3k (by omega), bfr.2.2 11 (by decide), hg_u3k (by omega), hg_u3k (by omega), hg_u3k (by omega), hg_u3k (by omega), hg_u3s]; rfl
              · rw [hg_u3k (by omega), bfr.2.2 12 (by decide), hg_u3k (by omega), hg_u3k (by omega), hg_u3k (by omega), hg_u3s]
              · rw [hg_u3k (by omega), bfr.2.2 13 (by decide), hg_u3k (by omega), hg_u3k (by omega), hg_u3s]
              · rw [hg_u3s]
              · exact (bme bu).cg (fun j h1 h2 => hg_u3k (by omega))
            · refine hg_eq1 (y := 0) (if_neg bu) ?_
              refine hg_if_ne (tgt := 184) d_M_isClause_179 (by decide) (fun h_36 => absurd h_36 (by decide)) (fun h_36 => ?_)
              refine hg_iconst (v := 0) d_M_isClause_182 (by decide) ?_
              refine hg_ireturn d_M_isClause_183 rfl (by decide) ?_
              have hr : ps_cl n L p g il = ((ps_E n L (ps_F n L 4) ((ps_nm n L (ps_wd n L 1 5 0 p).2).2.1 + 1)).1, (ps_E n L (ps_F n L 4) ((ps_nm n L (ps_wd n L 1 5 0 p).2).2.1 + 1)).2.1, (fun f => g f + (if (ps_E n L (ps_F n L 4) ((ps_nm n L (ps_wd n L 1 5 0 p).2).2.1 + 1)).2.2 f = true then (if true = true then nI (ps_nm n L (ps_wd n L 1 5 0 p).2).2.2 else -nI (ps_nm n L (ps_wd n L 1 5 0 p).2).2.2) else 0)), il) := hcl.trans ((if_pos hwd).trans ((if_pos hnm).trans (if_pos hsp)))
              rw [hr]
              have hlow : ∀ j, j < w → I4 22 15 j = I 22 15 j := fun j hj => (blo j hj).trans (by rw [hg_u3k (by omega), hg_u3k (by omega), hg_u3k (by omega), hg_u3k (by omega), hg_u3k (by omega), hq3.1 22 (by decide)])
              exact ⟨I4, rfl, (if_neg bu).symm, bat, bfr.c.tr hc4, hlow, bk, by show p + bk ≤ (ps_E n L (ps_F n L 4) ((ps_nm n L (ps_wd n L 1 5 0 p).2).2.1 + 1)).2.1; omega, bcd, fun z => absurd z bu⟩
          · refine hg_if_eq (tgt := 182) d_M_isClause_172 (by decide) (fun h_37 => ?_) (fun h_37 => absurd (by decide) h_37)
            refine hg_iconst (v := 0) d_M_isClause_182 (by decide) ?_
            refine hg_ireturn d_M_isClause_183 rfl (by decide) ?_
            have hr : ps_cl n L p g il = (false, (ps_nm n L (ps_wd n L 1 5 0 p).2).2.1, g, il) := hcl.trans ((if_pos hwd).trans ((if_pos hnm).trans (if_neg (by rw [hsp]; decide))))
            rw [hr]
            refine ⟨_, rfl, rfl, ?_, hc3, fun j hj => ?_, 0, by show p + 0 ≤ (ps_nm n L (ps_wd n L 1 5 0 p).2).2.1; omega, ?_, fun z => absurd (show false = true from z) (by decide)⟩
            · rw [hg_u3r, if_neg (by decide), hg_u3k (by omega), hg_u3k (by omega), hg_u3k (by omega)]; exact hat2
            · rw [hg_u3k (by omega), hg_u3k (by omega), hg_u3k (by omega), hg_u3k (by omega), hq3.1 22 (by decide)]
            · rw [hg_u3r, if_neg (by decide), hg_u3k (by omega), hg_u3k (by omega), hg_u3k (by omega)]; exact (hq3.2 28 (by omega)).trans hw
        · refine hg_eq1 (y := 0) (if_neg hnm) ?_
          refine hg_if_ne (tgt := 129) d_M_isClause_124 (by decide) (fun h_38 => absurd h_38 (by decide)) (fun h_38 => ?_)
          refine hg_iconst (v := 0) d_M_isClause_127 (by decide) ?_
          refine hg_ireturn d_M_isClause_128 rfl (by decide) ?_
          have hr : ps_cl n L p g il = (false, (ps_nm n L (ps_wd n L 1 5 0 p).2).2.1, g, il) := hcl.trans ((if_pos hwd).trans (if_neg hnm))
          rw [hr]
          exact ⟨_, rfl, rfl, hat2, hq3.p.c, fun j _ => by rw [hq3.1 22 (by decide)], 0, by show p + 0 ≤ (ps_nm n L (ps_wd n L 1 5 0 p).2).2.1; omega, (hq3.2 28 (by omega)).trans hw, fun z => absurd (show false = true from z) (by decide)⟩
      · refine hg_eq1 (y := 0) (if_neg hwd) ?_
        refine hg_goto (tgt := 115) d_M_isClause_79 (by decide) ?_
        refine hg_istore3 d_M_isClause_115 rfl ?_
        refine hg_iload3 d_M_isClause_116 ?_
        refine hg_if_eq (tgt := 127) d_M_isClause_117 (by decide) (fun h_39 => ?_) (fun h_39 => absurd (by decide) h_39)
        refine hg_iconst (v := 0) d_M_isClause_127 (by decide) ?_
        refine hg_ireturn d_M_isClause_128 rfl (by decide) ?_
        have hr : ps_cl n L p g il = (false, (ps_wd n L 1 5 0 p).2, g, il) := hcl.trans (if_neg hwd)
        rw [hr]
        exact ⟨_, rfl, rfl, hat1, hq1.p.c, fun j _ => by rw [hq1.1 22 (by decide)], 0, by show p + 0 ≤ (ps_wd n L 1 5 0 p).2; omega, (hq1.2 28 (by omega)).trans hw, fun z => absurd (show false = true from z) (by decide)⟩

end M49
