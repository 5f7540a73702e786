/-! the model: house, swap, see, plan, book, image, undo -/
section M35
variable {l : Launch} {E : hg_E} {d : Nat}
variable {I : Nat → Nat → Nat → Int32} {Lg : Nat → Nat → Nat → Int64} {Rf : Nat → Nat → Nat → Option (Nat × Nat)} {X : Nat × (Nat → Nat) × (Nat → Nat → Nat)}
variable {G : hs_G}variable {I' I1 : Nat → Nat → Nat → Int32} {Lg' : Nat → Nat → Nat → Int64} {σ : hs_S}
theorem hk_r.n {r : Nat} (h : hk_r r I' I) (hr : r < 9) : hm_n I' I := ⟨fun q a b c => funext fun i => h q i (by omega), fun j _ => by rw [h 21 0 (by omega)], fun r2 hr2 => h 22 r2 (by omega)⟩
theorem hs_ML.add {c r1 r2 : Nat} {y : Int32 → Int32 → Int32} {a : hs_L} (h : hs_ML c r1 r2 y a I) (hr : r1 ≠ r2) {u v w : Int32} (hw : w = y u v) : hs_ML c r1 r2 y (hs_Ladd a u v) (hg_u3 (hg_u3 (hg_u3 I 22 r1 a.1 u) 21 0 c (nI (a.1 + 1))) 22 r2 a.1 w) := by
  refine ⟨by rw [hg_u3k (by omega), hg_u3s]; rfl, fun i hi => ?_⟩
  have hi : i < a.1 + 1 := hi
  rw [hg_u3k (k' := 22) (i' := r1) (by omega), hg_u3k (by omega), hg_u3r, hg_u3r, hg_u3k (by omega), hg_u3k (by omega)]
  show (if i = a.1 then u else I 22 r1 i) = (if i = a.1 then u else a.2.1 i) ∧ (if i = a.1 then w else I 22 r2 i) = y (if i = a.1 then u else a.2.1 i) (if i = a.1 then v else a.2.2 i)
  by_cases z : i = a.1
  · rw [if_pos z, if_pos z, if_pos z, if_pos z]; exact ⟨rfl, hw⟩
  · rw [if_neg z, if_neg z, if_neg z, if_neg z]; exact h.2 i (by omega)
theorem hs_ML.emp {c r1 r2 : Nat} {y : Int32 → Int32 → Int32} {a : hs_L} : hs_ML c r1 r2 y (0, a.2) (hg_u3 I 21 0 c 0) := ⟨by rw [hg_u3s]; rfl, fun i hi => absurd hi (Nat.not_lt_zero i)⟩
theorem hs_MR.a0 {G : hs_G} (h : hs_MR G I Lg) {u v w : Int32} (hw : w = hs_y0 u v) : hs_MR (gsL G 0 (hs_Ladd (gL G 0) u v)) (hg_u3 (hg_u3 (hg_u3 I 22 16 (gL G 0).1 u) 21 0 30 (nI ((gL G 0).1 + 1))) 22 17 (gL G 0).1 w) Lg :=
  h.L0 (fun r a b => by funext z; rw [hg_u3k (by omega), hg_u3k (by omega), hg_u3k (by omega)]) (fun j hj => by rw [hg_u3k (by omega), hg_u3r, if_neg hj, hg_u3k (by omega)]) (h.1.2.1.add (by decide) hw)
theorem hs_MR.e0 {G : hs_G} (h : hs_MR G I Lg) : hs_MR (gsL G 0 (0, (gL G 0).2)) (hg_u3 I 21 0 30 0) Lg :=
  h.L0 (fun r a b => by funext z; rw [hg_u3k (by omega)]) (fun j hj => by rw [hg_u3r, if_neg hj]) (hs_ML.emp (a := gL G 0))
theorem hs_MR.a2 {G : hs_G} (h : hs_MR G I Lg) {u v w : Int32} (hw : w = hs_y1 u v) : hs_MR (gsL G 2 (hs_Ladd (gL G 2) u v)) (hg_u3 (hg_u3 (hg_u3 I 22 18 (gL G 2).1 u) 21 0 33 (nI ((gL G 2).1 + 1))) 22 19 (gL G 2).1 w) Lg :=
  h.L2 (fun r a b => by funext z; rw [hg_u3k (by omega), hg_u3k (by omega), hg_u3k (by omega)]) (fun j hj => by rw [hg_u3k (by omega), hg_u3r, if_neg hj, hg_u3k (by omega)]) (h.1.2.2.1.add (by decide) hw)
theorem hs_MR.e2 {G : hs_G} (h : hs_MR G I Lg) : hs_MR (gsL G 2 (0, (gL G 2).2)) (hg_u3 I 21 0 33 0) Lg :=
  h.L2 (fun r a b => by funext z; rw [hg_u3k (by omega)]) (fun j hj => by rw [hg_u3r, if_neg hj]) (hs_ML.emp (a := gL G 2))
theorem hs_MR.a4 {G : hs_G} (h : hs_MR G I Lg) {u v w : Int32} (hw : w = hs_y2 u v) : hs_MR (gsL G 4 (hs_Ladd (gL G 4) u v)) (hg_u3 (hg_u3 (hg_u3 I 22 20 (gL G 4).1 u) 21 0 36 (nI ((gL G 4).1 + 1))) 22 21 (gL G 4).1 w) Lg :=
  h.L4 (fun r a b => by funext z; rw [hg_u3k (by omega), hg_u3k (by omega), hg_u3k (by omega)]) (fun j hj => by rw [hg_u3k (by omega), hg_u3r, if_neg hj, hg_u3k (by omega)]) (h.1.2.2.2.add (by decide) hw)
theorem hs_MR.e4 {G : hs_G} (h : hs_MR G I Lg) : hs_MR (gsL G 4 (0, (gL G 4).2)) (hg_u3 I 21 0 36 0) Lg :=
  h.L4 (fun r a b => by funext z; rw [hg_u3k (by omega)]) (fun j hj => by rw [hg_u3r, if_neg hj]) (hs_ML.emp (a := gL G 4))
theorem m_M_house {x y z : Int32} (hX : hg_XS (gT G) X) (hR : hg_SR (gT G) Rf) (hM0 : hs_MR G I Lg) (hG : hs_gok G) : hg_MC l E (d + 3) Y_M_house 0 0 [.ref (hg_ad E 21 0), .int x, .int y, .int z] (I, Lg, Rf, X) (hg_i (fun v M' => hs_MP v (so_house G x y z).1 (so_house G x y z).2 I Lg Rf X M')) := by
  have hM := hM0.1.1
  have hO := hG.1
  have hn6 := hO.1
  have hT := hM0.2.2.2.2.2.2.2
  have hw := hG.2.1
  refine hg_mc k_M_house (Nat.le_of_ble_eq_true rfl) ?_
  show hg_WP l E _ Y_M_house 0 0 0 [some (.ref (hg_ad E 21 0)), some (.int x), some (.int y), some (.int z), none] [] (I, Lg, Rf, X) _
  refine hg_iload1 d_M_house_0 ?_
  refine hg_iconst (v := 0) d_M_house_1 (by decide) ?_
  refine hg_bipush (v := 6) d_M_house_2 (by decide) ?_
  refine hg_cSi d_M_house_4 l_M_111 rfl (Nat.le_of_ble_eq_true rfl) (m_M_in0 (b := 6) (by decide)) rfl ?_
  rintro _ _ ⟨⟨hha, rfl⟩ | ⟨hha, rfl⟩, rfl⟩
  · obtain ⟨k, hk, ek⟩ := hha
    have iha : hs_ix 7 x = some k := by rw [ek]; exact hs_ix_s (by omega) (by decide)
    subst ek
    show hg_WP l E _ Y_M_house 0 0 7 [some (.ref (hg_ad E 21 0)), some (.int (nI k)), some (.int y), some (.int z), none] [.int 1] (I, Lg, Rf, X) _
    refine hg_if_ne (tgt := 12) d_M_house_7 (by decide) (fun h_1 => ?_) (fun h_1 => absurd (by decide) h_1)
    refine hg_iload2 d_M_house_12 ?_
    refine hg_iconst (v := 0) d_M_house_13 (by decide) ?_
    refine hg_bipush (v := 9) d_M_house_14 (by decide) ?_
    refine hg_cSi d_M_house_16 l_M_111 rfl (Nat.le_of_ble_eq_true rfl) (m_M_in0 (b := 9) (by decide)) rfl ?_
    rintro _ _ ⟨⟨hhb, rfl⟩ | ⟨hhb, rfl⟩, rfl⟩
    · obtain ⟨v, hv, ev⟩ := hhb
      have ihb : hs_ix 10 y = some v := by rw [ev]; exact hs_ix_s (by omega) (by decide)
      subst ev
      show hg_WP l E _ Y_M_house 0 0 19 [some (.ref (hg_ad E 21 0)), some (.int (nI k)), some (.int (nI v)), some (.int z), none] [.int 1] (I, Lg, Rf, X) _
      refine hg_if_eq (tgt := 32) d_M_house_19 (by decide) (fun h_2 => absurd h_2 (by decide)) (fun h_2 => ?_)
      refine hg_iload3 d_M_house_22 ?_
      refine hg_iconst (v := 0) d_M_house_23 (by decide) ?_
      refine hg_bipush (v := 99) d_M_house_24 (by decide) ?_
      refine hg_cSi d_M_house_26 l_M_111 rfl (Nat.le_of_ble_eq_true rfl) (m_M_in0 (b := 99) (by decide)) rfl ?_
      rintro _ _ ⟨⟨hhc, rfl⟩ | ⟨hhc, rfl⟩, rfl⟩
      · obtain ⟨b, hb, eb⟩ := hhc
        have ihc : hs_ix 100 z = some b := by rw [eb]; exact hs_ix_s (by omega) (by decide)
        subst eb
        show hg_WP l E _ Y_M_house 0 0 29 [some (.ref (hg_ad E 21 0)), some (.int (nI k)), some (.int (nI v)), some (.int (nI b)), none] [.int 1] (I, Lg, Rf, X) _
        refine hg_if_ne (tgt := 35) d_M_house_29 (by decide) (fun h_3 => ?_) (fun h_3 => absurd (by decide) h_3)
        refine hg_aload0 d_M_house_35 ?_
        refine hg_getI d_M_house_36 f_M_108 rfl rfl (hX.lt (n := 1) ⟨by decide, by decide⟩ rfl (by omega)) ?_
        refine hg_eq1 (y := nI (hs_n (gN G))) (hM.1) ?_
        refine hg_bipush (v := 6) d_M_house_39 (by decide) ?_
        refine hg_icmp_ne (tgt := 47) d_M_house_41 (by decide) (fun hf => ?_) (fun hf => ?_)
        · have hfn : ¬ hs_n (gN G) = 6 := fun z => hf (by rw [z]; rfl)
          refine hg_aload0 d_M_house_47 ?_
          refine hg_getR d_M_house_48 f_M_9 rfl rfl (hX.lt (n := 1) ⟨by decide, by decide⟩ rfl (by omega)) (hR.m (j := 1) (q := (22, 0)) rfl) ?_
          refine hg_aload0 d_M_house_51 ?_
          refine hg_getI d_M_house_52 f_M_108 rfl rfl (hX.lt (n := 1) ⟨by decide, by decide⟩ rfl (by omega)) ?_
          refine hg_eq1 (y := nI (hs_n (gN G))) (hM.1) ?_
          refine hg_iload1 d_M_house_55 ?_
          refine hg_iast_n (j := (hs_n (gN G))) d_M_house_56 rfl rfl (hX.lt (n := 28) ⟨by decide, by decide⟩ rfl (by omega)) (hX.jn (n := 6) (by decide) rfl (by omega)) ?_
          refine hg_aload0 d_M_house_57 ?_
          refine hg_getR d_M_house_58 f_M_15 rfl rfl (hX.lt (n := 1) ⟨by decide, by decide⟩ rfl (by omega)) (hR.m (j := 2) (q := (22, 1)) rfl) ?_
          refine hg_aload0 d_M_house_61 ?_
          refine hg_getI d_M_house_62 f_M_108 rfl rfl (hX.lt (n := 1) ⟨by decide, by decide⟩ rfl (by omega)) ?_
          refine hg_eq1 (y := I 21 0 0) (by simp [hg_u3]) ?_
          refine hg_eq1 (y := nI (hs_n (gN G))) (hM.1) ?_
          refine hg_iload2 d_M_house_65 ?_
          refine hg_iast_n (j := (hs_n (gN G))) d_M_house_66 rfl rfl (hX.lt (n := 28) ⟨by decide, by decide⟩ rfl (by omega)) (hX.jn (n := 6) (by decide) rfl (by omega)) ?_
          refine hg_aload0 d_M_house_67 ?_
          refine hg_getR d_M_house_68 f_M_18 rfl rfl (hX.lt (n := 1) ⟨by decide, by decide⟩ rfl (by omega)) (hR.m (j := 3) (q := (22, 2)) rfl) ?_
          refine hg_aload0 d_M_house_71 ?_
          refine hg_getI d_M_house_72 f_M_108 rfl rfl (hX.lt (n := 1) ⟨by decide, by decide⟩ rfl (by omega)) ?_
          refine hg_eq1 (y := I 21 0 0) (by simp [hg_u3]) ?_
          refine hg_eq1 (y := nI (hs_n (gN G))) (hM.1) ?_
          refine hg_iload3 d_M_house_75 ?_
          refine hg_iast_n (j := (hs_n (gN G))) d_M_house_76 rfl rfl (hX.lt (n := 28) ⟨by decide, by decide⟩ rfl (by omega)) (hX.jn (n := 6) (by decide) rfl (by omega)) ?_
          refine hg_aload0 d_M_house_77 ?_
          refine hg_getR d_M_house_78 f_M_21 rfl rfl (hX.lt (n := 1) ⟨by decide, by decide⟩ rfl (by omega)) (hR.m (j := 4) (q := (22, 3)) rfl) ?_
          refine hg_aload0 d_M_house_81 ?_
          refine hg_getI d_M_house_82 f_M_108 rfl rfl (hX.lt (n := 1) ⟨by decide, by decide⟩ rfl (by omega)) ?_
          refine hg_eq1 (y := I 21 0 0) (by simp [hg_u3]) ?_
          refine hg_eq1 (y := nI (hs_n (gN G))) (hM.1) ?_
          refine hg_iconst (v := 0) d_M_house_85 (by decide) ?_
          refine hg_iast_n (j := (hs_n (gN G))) d_M_house_86 rfl rfl (hX.lt (n := 28) ⟨by decide, by decide⟩ rfl (by omega)) (hX.jn (n := 6) (by decide) rfl (by omega)) ?_
          refine hg_aload0 d_M_house_87 ?_
          refine hg_getR d_M_house_88 f_M_24 rfl rfl (hX.lt (n := 1) ⟨by decide, by decide⟩ rfl (by omega)) (hR.m (j := 5) (q := (22, 4)) rfl) ?_
          refine hg_aload0 d_M_house_91 ?_
          refine hg_getI d_M_house_92 f_M_108 rfl rfl (hX.lt (n := 1) ⟨by decide, by decide⟩ rfl (by omega)) ?_
          refine hg_eq1 (y := I 21 0 0) (by simp [hg_u3]) ?_
          refine hg_eq1 (y := nI (hs_n (gN G))) (hM.1) ?_
          refine hg_iconst (v := 0) d_M_house_95 (by decide) ?_
          refine hg_iast_n (j := (hs_n (gN G))) d_M_house_96 rfl rfl (hX.lt (n := 28) ⟨by decide, by decide⟩ rfl (by omega)) (hX.jn (n := 6) (by decide) rfl (by omega)) ?_
          refine hg_aload0 d_M_house_97 ?_
          refine hg_getR d_M_house_98 f_M_27 rfl rfl (hX.lt (n := 1) ⟨by decide, by decide⟩ rfl (by omega)) (hR.m (j := 6) (q := (22, 5)) rfl) ?_
          refine hg_aload0 d_M_house_101 ?_
          refine hg_getI d_M_house_102 f_M_108 rfl rfl (hX.lt (n := 1) ⟨by decide, by decide⟩ rfl (by omega)) ?_
          refine hg_eq1 (y := I 21 0 0) (by simp [hg_u3]) ?_
          refine hg_eq1 (y := nI (hs_n (gN G))) (hM.1) ?_
          refine hg_iconst (v := 0) d_M_house_105 (by decide) ?_
          refine hg_iast_n (j := (hs_n (gN G))) d_M_house_106 rfl rfl (hX.lt (n := 28) ⟨by decide, by decide⟩ rfl (by omega)) (hX.jn (n := 6) (by decide) rfl (by omega)) ?_
          refine hg_aload0 d_M_house_107 ?_
          refine hg_getR d_M_house_108 f_M_30 rfl rfl (hX.lt (n := 1) ⟨by decide, by decide⟩ rfl (by omega)) (hR.m (j := 7) (q := (22, 6)) rfl) ?_
          refine hg_aload0 d_M_house_111 ?_
          refine hg_getI d_M_house_112 f_M_108 rfl rfl (hX.lt (n := 1) ⟨by decide, by decide⟩ rfl (by omega)) ?_
          refine hg_eq1 (y := I 21 0 0) (by simp [hg_u3]) ?_
          refine hg_eq1 (y := nI (hs_n (gN G))) (hM.1) ?_
          refine hg_iconst (v := 0) d_M_house_115 (by decide) ?_
          refine hg_iast_n (j := (hs_n (gN G))) d_M_house_116 rfl rfl (hX.lt (n := 28) ⟨by decide, by decide⟩ rfl (by omega)) (hX.jn (n := 6) (by decide) rfl (by omega)) ?_
          refine hg_iconst (v := 0) d_M_house_117 (by decide) ?_
          refine hg_istore4 d_M_house_118 rfl ?_
          refine hg_iload4 d_M_house_120 ?_
          refine hg_iconst (v := 4) d_M_house_122 (by decide) ?_
          refine hg_icmp_ge (tgt := 147) d_M_house_123 (by decide) (fun h_4 => absurd h_4 (by decide)) (fun h_4 => ?_)
          refine hg_aload0 d_M_house_126 ?_
          refine hg_getR d_M_house_127 f_M_33 rfl rfl (hX.lt (n := 1) ⟨by decide, by decide⟩ rfl (by omega)) (hR.m (j := 8) (q := (22, 7)) rfl) ?_
          refine hg_iconst (v := 4) d_M_house_130 (by decide) ?_
          refine hg_aload0 d_M_house_131 ?_
          refine hg_getI d_M_house_132 f_M_108 rfl rfl (hX.lt (n := 1) ⟨by decide, by decide⟩ rfl (by omega)) ?_
          refine hg_eq1 (y := I 21 0 0) (by simp [hg_u3]) ?_
          refine hg_eq1 (y := nI (hs_n (gN G))) (hM.1) ?_
          refine hg_imul d_M_house_135 ?_
          refine hg_eq1 (y := nI (4 * (hs_n (gN G)))) (pk_mul _ _) ?_
          refine hg_iload4 d_M_house_136 ?_
          refine hg_iadd d_M_house_138 ?_
          refine hg_eq1 (y := nI ((4 * (hs_n (gN G))) + 0)) (nI_add _ _) ?_
          refine hg_iconst (v := 0) d_M_house_139 (by decide) ?_
          refine hg_iast_n (j := ((4 * (hs_n (gN G))) + 0)) d_M_house_140 rfl rfl (hX.lt (n := 28) ⟨by decide, by decide⟩ rfl (by omega)) (hX.jn (n := 24) (by decide) rfl (by omega)) ?_
          refine hg_iinc4 (v := 1) d_M_house_141 rfl (by decide) ?_
          refine hg_goto (tgt := 120) d_M_house_144 (by decide) ?_
          refine hg_iload4 d_M_house_120 ?_
          refine hg_iconst (v := 4) d_M_house_122 (by decide) ?_
          refine hg_icmp_ge (tgt := 147) d_M_house_123 (by decide) (fun h_5 => absurd h_5 (by decide)) (fun h_5 => ?_)
          refine hg_aload0 d_M_house_126 ?_
          refine hg_getR d_M_house_127 f_M_33 rfl rfl (hX.lt (n := 1) ⟨by decide, by decide⟩ rfl (by omega)) (hR.m (j := 8) (q := (22, 7)) rfl) ?_
          refine hg_iconst (v := 4) d_M_house_130 (by decide) ?_
          refine hg_aload0 d_M_house_131 ?_
          refine hg_getI d_M_house_132 f_M_108 rfl rfl (hX.lt (n := 1) ⟨by decide, by decide⟩ rfl (by omega)) ?_
          refine hg_eq1 (y := I 21 0 0) (by simp [hg_u3]) ?_
          refine hg_eq1 (y := nI (hs_n (gN G))) (hM.1) ?_
          refine hg_imul d_M_house_135 ?_
          refine hg_eq1 (y := nI (4 * (hs_n (gN G)))) (pk_mul _ _) ?_
          refine hg_iload4 d_M_house_136 ?_
          refine hg_iadd d_M_house_138 ?_
          refine hg_eq1 (y := nI ((4 * (hs_n (gN G))) + 1)) (nI_add _ _) ?_
          refine hg_iconst (v := 0) d_M_house_139 (by decide) ?_
          refine hg_iast_n (j := ((4 * (hs_n (gN G))) + 1)) d_M_house_140 rfl rfl (hX.lt (n := 28) ⟨by decide, by decide⟩ rfl (by omega)) (hX.jn (n := 24) (by decide) rfl (by omega)) ?_
          refine hg_iinc4 (v := 2) d_M_house_141 rfl (by decide) ?_
          refine hg_goto (tgt := 120) d_M_house_144 (by decide) ?_
          refine hg_iload4 d_M_house_120 ?_
          refine hg_iconst (v := 4) d_M_house_122 (by decide) ?_
          refine hg_icmp_ge (tgt := 147) d_M_house_123 (by decide) (fun h_6 => absurd h_6 (by decide)) (fun h_6 => ?_)
          refine hg_aload0 d_M_house_126 ?_
          refine hg_getR d_M_house_127 f_M_33 rfl rfl (hX.lt (n := 1) ⟨by decide, by decide⟩ rfl (by omega)) (hR.m (j := 8) (q := (22, 7)) rfl) ?_
          refine hg_iconst (v := 4) d_M_house_130 (by decide) ?_
          refine hg_aload0 d_M_house_131 ?_
          refine hg_getI d_M_house_132 f_M_108 rfl rfl (hX.lt (n := 1) ⟨by decide, by decide⟩ rfl (by omega)) ?_
          refine hg_eq1 (y := I 21 0 0) (by simp [hg_u3]) ?_
          refine hg_eq1 (y := nI (hs_n (gN G))) (hM.1) ?_
          refine hg_imul d_M_house_135 ?_
          refine hg_eq1 (y := nI (4 * (hs_n (gN G)))) (pk_mul _ _) ?_
          refine hg_iload4 d_M_house_136 ?_
          refine hg_iadd d_M_house_138 ?_
          refine hg_eq1 (y := nI ((4 * (hs_n (gN G))) + 2)) (nI_add _ _) ?_
          refine hg_iconst (v := 0) d_M_house_139 (by decide) ?_
          refine hg_iast_n (j := ((4 * (hs_n (gN G))) + 2)) d_M_house_140 rfl rfl (hX.lt (n := 28) ⟨by decide, by decide⟩ rfl (by omega)) (hX.jn (n := 24) (by decide) rfl (by omega)) ?_
          refine hg_iinc4 (v := 3) d_M_house_141 rfl (by decide) ?_
          refine hg_goto (tgt := 120) d_M_house_144 (by decide) ?_
          refine hg_iload4 d_M_house_120 ?_
          refine hg_iconst (v := 4) d_M_house_122 (by decide) ?_
          refine hg_icmp_ge (tgt := 147) d_M_house_123 (by decide) (fun h_7 => absurd h_7 (by decide)) (fun h_7 => ?_)
          refine hg_aload0 d_M_house_126 ?_
          refine hg_getR d_M_house_127 f_M_33 rfl rfl (hX.lt (n := 1) ⟨by decide, by decide⟩ rfl (by omega)) (hR.m (j := 8) (q := (22, 7)) rfl) ?_
          refine hg_iconst (v := 4) d_M_house_130 (by decide) ?_
          refine hg_aload0 d_M_house_131 ?_
          refine hg_getI d_M_house_132 f_M_108 rfl rfl (hX.lt (n := 1) ⟨by decide, by decide⟩ rfl (by omega)) ?_
          refine hg_eq1 (y := I 21 0 0) (by simp [hg_u3]) ?_
          refine hg_eq1 (y := nI (hs_n (gN G))) (hM.1) ?_
          refine hg_imul d_M_house_135 ?_
          refine hg_eq1 (y := nI (4 * (hs_n (gN G)))) (pk_mul _ _) ?_
          refine hg_iload4 d_M_house_136 ?_
          refine hg_iadd d_M_house_138 ?_
          refine hg_eq1 (y := nI ((4 * (hs_n (gN G))) + 3)) (nI_add _ _) ?_
          refine hg_iconst (v := 0) d_M_house_139 (by decide) ?_
          refine hg_iast_n (j := ((4 * (hs_n (gN G))) + 3)) d_M_house_140 rfl rfl (hX.lt (n := 28) ⟨by decide, by decide⟩ rfl (by omega)) (hX.jn (n := 24) (by decide) rfl (by omega)) ?_
          refine hg_iinc4 (v := 4) d_M_house_141 rfl (by decide) ?_
          refine hg_goto (tgt := 120) d_M_house_144 (by decide) ?_
          refine hg_iload4 d_M_house_120 ?_
          refine hg_iconst (v := 4) d_M_house_122 (by decide) ?_
          refine hg_icmp_ge (tgt := 147) d_M_house_123 (by decide) (fun h_8 => ?_) (fun h_8 => absurd (by decide) h_8)
          refine hg_aload0 d_M_house_147 ?_
          refine hg_getR d_M_house_148 f_M_36 rfl rfl (hX.lt (n := 1) ⟨by decide, by decide⟩ rfl (by omega)) (hR.m (j := 9) (q := (22, 8)) rfl) ?_
          refine hg_aload0 d_M_house_151 ?_
          refine hg_getI d_M_house_152 f_M_108 rfl rfl (hX.lt (n := 1) ⟨by decide, by decide⟩ rfl (by omega)) ?_
          refine hg_eq1 (y := I 21 0 0) (by simp [hg_u3]) ?_
          refine hg_eq1 (y := nI (hs_n (gN G))) (hM.1) ?_
          refine hg_aload0 d_M_house_155 ?_
          refine hg_getI d_M_house_156 f_M_108 rfl rfl (hX.lt (n := 1) ⟨by decide, by decide⟩ rfl (by omega)) ?_
          refine hg_eq1 (y := I 21 0 0) (by simp [hg_u3]) ?_
          refine hg_eq1 (y := nI (hs_n (gN G))) (hM.1) ?_
          refine hg_iast_n (j := (hs_n (gN G))) d_M_house_159 rfl rfl (hX.lt (n := 28) ⟨by decide, by decide⟩ rfl (by omega)) (hX.jn (n := 6) (by decide) rfl (by omega)) ?_
          refine hg_aload0 d_M_house_160 ?_
          refine hg_dup d_M_house_161 rfl ?_
          refine hg_getI d_M_house_162 f_M_108 rfl rfl (hX.lt (n := 1) ⟨by decide, by decide⟩ rfl (by omega)) ?_
          refine hg_eq1 (y := I 21 0 0) (by simp [hg_u3]) ?_
          refine hg_eq1 (y := nI (hs_n (gN G))) (hM.1) ?_
          refine hg_dup_x1 d_M_house_165 rfl rfl ?_
          refine hg_iconst (v := 1) d_M_house_166 (by decide) ?_
          refine hg_iadd d_M_house_167 ?_
          refine hg_eq1 (y := nI ((hs_n (gN G)) + 1)) (nI_add _ _) ?_
          refine hg_putI d_M_house_168 f_M_108 rfl rfl (Or.inl rfl) rfl rfl (hX.lt (n := 1) ⟨by decide, by decide⟩ rfl (by omega)) ?_
          refine hg_ireturn d_M_house_171 rfl rfl ?_
          have hz : so_house G (nI k) (nI v) (nI b) = (nI (hs_n (gN G)), gsN G (hs_add (gN G) (nI k) (nI v) (nI b))) := by simp [so_house, iha, ihb, ihc, hfn]
          rw [hz]
          exact ⟨rfl, _, Lg, rfl, hM0.N (hM.add (k := nI k) (v := nI v) (b := nI b) (by (repeat (first | rw [hg_u3k (by decide)] | (rw [hg_u3r]; first | rw [if_pos (by omega)] | rw [if_neg (by omega)])))) (fun j hj => by (repeat (first | rw [hg_u3k (by decide)] | (rw [hg_u3r]; first | rw [if_pos (by omega)] | rw [if_neg (by omega)])))) (fun j hj => by (repeat (first | rw [hg_u3k (by decide)] | (rw [hg_u3r]; first | rw [if_pos (by omega)] | rw [if_neg (by omega)])))) (by (repeat (first | rw [hg_u3k (by decide)] | (rw [hg_u3r]; first | rw [if_pos (by omega)] | rw [if_neg (by omega)])))) (fun f p hf hp => by (have h7 : f = 0 ∨ f = 1 ∨ f = 2 ∨ f = 3 ∨ f = 4 ∨ f = 5 ∨ f = 6 := by omega); (rcases h7 with rfl | rfl | rfl | rfl | rfl | rfl | rfl) <;> (repeat (first | rw [hg_u3k (by decide)] | (rw [hg_u3r]; first | rw [if_pos (by omega)] | rw [if_neg (by omega)])))) (fun f hf => by (have h7 : f = 0 ∨ f = 1 ∨ f = 2 ∨ f = 3 ∨ f = 4 ∨ f = 5 ∨ f = 6 := by omega); (rcases h7 with rfl | rfl | rfl | rfl | rfl | rfl | rfl) <;> ((repeat (first | rw [hg_u3k (by decide)] | (rw [hg_u3r]; first | rw [if_pos (by omega)] | rw [if_neg (by omega)]))); rfl)) (fun i hi => by (repeat (first | rw [hg_u3k (by decide)] | (rw [hg_u3r]; first | rw [if_pos (by omega)] | rw [if_neg (by omega)])))) (fun j hj => by (have h4 : j = 0 ∨ j = 1 ∨ j = 2 ∨ j = 3 := by omega); (rcases h4 with rfl | rfl | rfl | rfl) <;> (repeat (first | rw [hg_u3k (by decide)] | (rw [hg_u3r]; first | rw [if_pos (by omega)] | rw [if_neg (by omega)]))))) (((((((((((((hm_n.rf.u22 (by decide)).u22 (by decide)).u22 (by decide)).u22 (by decide)).u22 (by decide)).u22 (by decide)).u22 (by decide)).u22 (by decide)).u22 (by decide)).u22 (by decide)).u22 (by decide)).u22 (by decide)).u21 (by decide)), fun k hk => by funext a b; (repeat rw [hg_u3k (by omega)]), fun _ _ => rfl⟩
        · replace hf := Decidable.not_not.mp hf
          have hfy : hs_n (gN G) = 6 := (nI_eq (b := 6) (by omega) (by decide)).mp hf
          refine hg_bipush (v := (-4)) d_M_house_44 (by decide) ?_
          refine hg_ireturn d_M_house_46 rfl rfl ?_
          have hz : so_house G (nI k) (nI v) (nI b) = (-4, G) := by simp [so_house, iha, ihb, ihc, hfy]
          rw [hz]
          exact ⟨rfl, I, Lg, rfl, hM0, fun _ _ => rfl, fun _ _ => rfl⟩
      · have ihc : hs_ix 100 z = none := hs_ix_n2 hhc
        refine hg_if_ne (tgt := 35) d_M_house_29 (by decide) (fun h_9 => absurd h_9 (by decide)) (fun h_9 => ?_)
        refine hg_bipush (v := (-2)) d_M_house_32 (by decide) ?_
        refine hg_ireturn d_M_house_34 rfl rfl ?_
        have hz : so_house G (nI k) (nI v) z = (-2, G) := by simp [so_house, iha, ihb, ihc]
        rw [hz]
        exact ⟨rfl, I, Lg, rfl, hM0, fun _ _ => rfl, fun _ _ => rfl⟩
    · have ihb : hs_ix 10 y = none := hs_ix_n2 hhb
      refine hg_if_eq (tgt := 32) d_M_house_19 (by decide) (fun h_10 => ?_) (fun h_10 => absurd (by decide) h_10)
      refine hg_bipush (v := (-2)) d_M_house_32 (by decide) ?_
      refine hg_ireturn d_M_house_34 rfl rfl ?_
      have hz : so_house G (nI k) y z = (-2, G) := by simp [so_house, iha, ihb]
      rw [hz]
      exact ⟨rfl, I, Lg, rfl, hM0, fun _ _ => rfl, fun _ _ => rfl⟩
  · have iha : hs_ix 7 x = none := hs_ix_n2 hha
    refine hg_if_ne (tgt := 12) d_M_house_7 (by decide) (fun h_11 => absurd h_11 (by decide)) (fun h_11 => ?_)
    refine hg_iconst (v := (-1)) d_M_house_10 (by decide) ?_
    refine hg_ireturn d_M_house_11 rfl rfl ?_
    have hz : so_house G x y z = (-1, G) := by simp [so_house, iha]
    rw [hz]
    exact ⟨rfl, I, Lg, rfl, hM0, fun _ _ => rfl, fun _ _ => rfl⟩

theorem m_M_swap {x y : Int32} (hX : hg_XS (gT G) X) (hR : hg_SR (gT G) Rf) (hM0 : hs_MR G I Lg) (hG : hs_gok G) : hg_MC l E (d + 4) Y_M_swap 0 0 [.ref (hg_ad E 21 0), .int x, .int y] (I, Lg, Rf, X) (hg_i (fun v M' => hs_MP v (so_swap G x y).1 (so_swap G x y).2 I Lg Rf X M')) := by
  have hM := hM0.1.1
  have hO := hG.1
  have hn6 := hO.1
  have hT := hM0.2.2.2.2.2.2.2
  have hw := hG.2.1
  refine hg_mc k_M_swap (Nat.le_of_ble_eq_true rfl) ?_
  show hg_WP l E _ Y_M_swap 0 0 0 [some (.ref (hg_ad E 21 0)), some (.int x), some (.int y)] [] (I, Lg, Rf, X) _
  refine hg_aload0 d_M_swap_0 ?_
  refine hg_iload1 d_M_swap_1 ?_
  refine hg_cVi d_M_swap_2 l_M_115 rfl rfl (hX.lt (n := 1) ⟨by decide, by decide⟩ rfl (by omega)) rfl (Nat.le_of_ble_eq_true rfl) (m_M_isOne hX hM.1 hn6) rfl ?_
  rintro _ _ ⟨⟨hha, rfl⟩ | ⟨hha, rfl⟩, rfl⟩
  · obtain ⟨p, hp, ep⟩ := hha
    have iha : hs_ix (hs_n (gN G)) x = some p := by rw [ep]; exact hs_ix_s hp (by omega)
    subst ep
    show hg_WP l E _ Y_M_swap 0 0 5 [some (.ref (hg_ad E 21 0)), some (.int (nI p)), some (.int y)] [.int 1] (I, Lg, Rf, X) _
    refine hg_if_eq (tgt := 16) d_M_swap_5 (by decide) (fun h_1 => absurd h_1 (by decide)) (fun h_1 => ?_)
    refine hg_aload0 d_M_swap_8 ?_
    refine hg_iload2 d_M_swap_9 ?_
    refine hg_cVi d_M_swap_10 l_M_115 rfl rfl (hX.lt (n := 1) ⟨by decide, by decide⟩ rfl (by omega)) rfl (Nat.le_of_ble_eq_true rfl) (m_M_isOne hX hM.1 hn6) rfl ?_
    rintro _ _ ⟨⟨hhb, rfl⟩ | ⟨hhb, rfl⟩, rfl⟩
    · obtain ⟨q, hq, eq⟩ := hhb
      have ihb : hs_ix (hs_n (gN G)) y = some q := by rw [eq]; exact hs_ix_s hq (by omega)
      subst eq
      show hg_WP l E _ Y_M_swap 0 0 13 [some (.ref (hg_ad E 21 0)), some (.int (nI p)), some (.int (nI q))] [.int 1] (I, Lg, Rf, X) _
      refine hg_if_ne (tgt := 18) d_M_swap_13 (by decide) (fun h_2 => ?_) (fun h_2 => absurd (by decide) h_2)
      refine hg_iload1 d_M_swap_18 ?_
      refine hg_iload2 d_M_swap_19 ?_
      refine hg_icmp_ne (tgt := 26) d_M_swap_20 (by decide) (fun hpq => ?_) (fun hpq => ?_)
      · have hpn : ¬ p = q := fun z => hpq (by rw [z])
        refine hg_aload0 d_M_swap_26 ?_
        refine hg_iload1 d_M_swap_27 ?_
        refine hg_iload2 d_M_swap_28 ?_
        obtain ⟨hp1, hp2⟩ := hs_plc_ok hO hp
        obtain ⟨hq1, hq2⟩ := hs_plc_ok hO hq
        have K := m_M_swaps (l := l) (E := E) (d := d + 1) (Lg := Lg) hX hR hM hO hp1 hq1
        rw [hp2, hq2] at K
        refine hg_cVv d_M_swap_29 l_M_132 rfl rfl (hX.lt (n := 1) ⟨by decide, by decide⟩ rfl (by omega)) rfl (Nat.le_of_ble_eq_true rfl) (K) rfl ?_
        rintro _ ⟨I2, rfl, hM2, hq2'⟩
        refine hg_aload0 d_M_swap_32 ?_
        refine hg_iload1 d_M_swap_33 ?_
        have e2 : hs_st (hs_chg (gN G) p q) (hs_plc (gN G) q) = p := by show (if _ then _ else _) = _; rw [if_pos rfl]; exact hp2
        have K2 := m_M_placeOf (l := l) (E := E) (d := d + 2) (Lg := Lg) (j := hs_plc (gN G) q) hX hR hM2 (hO.chg hp hq) hq1
        rw [show hs_st (hs_sw2 (gN G) (hs_plc (gN G) p) (hs_plc (gN G) q)) (hs_plc (gN G) q) = p from e2] at K2
        refine hg_cVi d_M_swap_34 l_M_129 rfl rfl (hX.lt (n := 1) ⟨by decide, by decide⟩ rfl (by omega)) rfl (Nat.le_of_ble_eq_true rfl) (K2) rfl ?_
        rintro _ _ ⟨rfl, rfl⟩
        refine hg_ireturn d_M_swap_37 rfl rfl ?_
        have hz : so_swap G (nI p) (nI q) = (nI (hs_plc (gN G) q), gsN G (hs_chg (gN G) p q)) := by simp [so_swap, iha, ihb, hpn]
        rw [hz]
        exact ⟨rfl, _, Lg, rfl, hM0.N hM2 (hk_r.n hq2' (by decide)), (hk_r.n hq2' (by decide)).s.lo, fun _ _ => rfl⟩
      · replace hpq := Decidable.not_not.mp hpq
        have hpy : p = q := (nI_eq (by omega) (by omega)).mp hpq
        refine hg_bipush (v := (-2)) d_M_swap_23 (by decide) ?_
        refine hg_ireturn d_M_swap_25 rfl rfl ?_
        subst hpy
        have hz : so_swap G (nI p) (nI p) = (-2, G) := by simp [so_swap, iha, ihb, ihb]
        rw [hz]
        exact ⟨rfl, I, Lg, rfl, hM0, fun _ _ => rfl, fun _ _ => rfl⟩
    · have ihb : hs_ix (hs_n (gN G)) y = none := hs_ix_n hhb
      refine hg_if_ne (tgt := 18) d_M_swap_13 (by decide) (fun h_3 => absurd h_3 (by decide)) (fun h_3 => ?_)
      refine hg_iconst (v := (-1)) d_M_swap_16 (by decide) ?_
      refine hg_ireturn d_M_swap_17 rfl rfl ?_
      have hz : so_swap G (nI p) y = (-1, G) := by simp [so_swap, iha, ihb]
      rw [hz]
      exact ⟨rfl, I, Lg, rfl, hM0, fun _ _ => rfl, fun _ _ => rfl⟩
  · have iha : hs_ix (hs_n (gN G)) x = none := hs_ix_n hha
    refine hg_if_eq (tgt := 16) d_M_swap_5 (by decide) (fun h_4 => ?_) (fun h_4 => absurd (by decide) h_4)
    refine hg_iconst (v := (-1)) d_M_swap_16 (by decide) ?_
    refine hg_ireturn d_M_swap_17 rfl rfl ?_
    have hz : so_swap G x y = (-1, G) := by simp [so_swap, iha]
    rw [hz]
    exact ⟨rfl, I, Lg, rfl, hM0, fun _ _ => rfl, fun _ _ => rfl⟩

theorem m_M_see {x y : Int32} (hX : hg_XS (gT G) X) (hR : hg_SR (gT G) Rf) (hM0 : hs_MR G I Lg) (hG : hs_gok G) : hg_MC l E (d + 3) Y_M_see 0 0 [.ref (hg_ad E 21 0), .int x, .int y] (I, Lg, Rf, X) (hg_i (fun v M' => hs_MP v (so_see G x y).1 (so_see G x y).2 I Lg Rf X M')) := by
  have hM := hM0.1.1
  have hO := hG.1
  have hn6 := hO.1
  have hT := hM0.2.2.2.2.2.2.2
  have hw := hG.2.1
  have hL0 := hG.2.2.2.1 0 (by decide)
  have hL2 := hG.2.2.2.1 2 (by decide)
  have hL4 := hG.2.2.2.1 4 (by decide)
  replace hL0 : (gL G 0).1 ≤ 5 := hL0
  replace hL2 : (gL G 2).1 ≤ 10 := hL2
  replace hL4 : (gL G 4).1 ≤ 8 := hL4
  refine hg_mc k_M_see (Nat.le_of_ble_eq_true rfl) ?_
  show hg_WP l E _ Y_M_see 0 0 0 [some (.ref (hg_ad E 21 0)), some (.int x), some (.int y)] [] (I, Lg, Rf, X) _
  refine hg_iload1 d_M_see_0 ?_
  refine hg_iconst (v := (-1)) d_M_see_1 (by decide) ?_
  refine hg_icmp_ne (tgt := 12) d_M_see_2 (by decide) (fun hn1 => ?_) (fun hn1 => ?_)
  · refine hg_iload2 d_M_see_12 ?_
    refine hg_iconst (v := (-1)) d_M_see_13 (by decide) ?_
    refine hg_icmp_eq (tgt := 27) d_M_see_14 (by decide) (fun hh1 => ?_) (fun hh1 => ?_)
    · subst hh1
      refine hg_iload1 d_M_see_27 ?_
      refine hg_iconst (v := 0) d_M_see_28 (by decide) ?_
      refine hg_bipush (v := 12) d_M_see_29 (by decide) ?_
      refine hg_cSi d_M_see_31 l_M_111 rfl (Nat.le_of_ble_eq_true rfl) (m_M_in0 (b := 12) (by decide)) rfl ?_
      rintro _ _ ⟨⟨hha, rfl⟩ | ⟨hha, rfl⟩, rfl⟩
      · obtain ⟨m, hm, em⟩ := hha
        have iha : hs_ix 13 x = some m := by rw [em]; exact hs_ix_s (by omega) (by decide)
        subst em
        show hg_WP l E _ Y_M_see 0 0 34 [some (.ref (hg_ad E 21 0)), some (.int (nI m)), some (.int (-1))] [.int 1] (I, Lg, Rf, X) _
        refine hg_if_ne (tgt := 40) d_M_see_34 (by decide) (fun h_1 => ?_) (fun h_1 => absurd (by decide) h_1)
        refine hg_aload0 d_M_see_40 ?_
        refine hg_getI d_M_see_41 f_M_282 rfl rfl (hX.lt (n := 1) ⟨by decide, by decide⟩ rfl (by omega)) ?_
        refine hg_eq1 (y := nI (gL G 0).1) (hM0.1.2.1.1) ?_
        refine hg_iconst (v := 5) d_M_see_44 (by decide) ?_
        refine hg_icmp_ne (tgt := 51) d_M_see_45 (by decide) (fun hf => ?_) (fun hf => ?_)
        · have hfn : ¬ (gL G 0).1 = 5 := fun z => hf (by rw [z]; rfl)
          refine hg_aload0 d_M_see_51 ?_
          refine hg_getR d_M_see_52 f_M_64 rfl rfl (hX.lt (n := 1) ⟨by decide, by decide⟩ rfl (by omega)) (hR.m (j := 31) (q := (22, 16)) rfl) ?_
          refine hg_aload0 d_M_see_55 ?_
          refine hg_getI d_M_see_56 f_M_282 rfl rfl (hX.lt (n := 1) ⟨by decide, by decide⟩ rfl (by omega)) ?_
          refine hg_eq1 (y := nI (gL G 0).1) (hM0.1.2.1.1) ?_
          refine hg_iload1 d_M_see_59 ?_
          refine hg_iast_n (j := ((gL G 0).1)) d_M_see_60 rfl rfl (hX.lt (n := 28) ⟨by decide, by decide⟩ rfl (by omega)) (hX.jn (n := 5) (by decide) rfl (by omega)) ?_
          refine hg_aload0 d_M_see_61 ?_
          refine hg_getR d_M_see_62 f_M_67 rfl rfl (hX.lt (n := 1) ⟨by decide, by decide⟩ rfl (by omega)) (hR.m (j := 32) (q := (22, 17)) rfl) ?_
          refine hg_aload0 d_M_see_65 ?_
          refine hg_dup d_M_see_66 rfl ?_
          refine hg_getI d_M_see_67 f_M_282 rfl rfl (hX.lt (n := 1) ⟨by decide, by decide⟩ rfl (by omega)) ?_
          refine hg_eq1 (y := I 21 0 30) (by simp [hg_u3]) ?_
          refine hg_eq1 (y := nI (gL G 0).1) (hM0.1.2.1.1) ?_
          refine hg_dup_x1 d_M_see_70 rfl rfl ?_
          refine hg_iconst (v := 1) d_M_see_71 (by decide) ?_
          refine hg_iadd d_M_see_72 ?_
          refine hg_eq1 (y := nI ((gL G 0).1 + 1)) (nI_add _ _) ?_
          refine hg_putI d_M_see_73 f_M_282 rfl rfl (Or.inl rfl) rfl rfl (hX.lt (n := 1) ⟨by decide, by decide⟩ rfl (by omega)) ?_
          refine hg_iload2 d_M_see_76 ?_
          refine hg_iconst (v := (-1)) d_M_see_77 (by decide) ?_
          refine hg_icmp_ne (tgt := 86) d_M_see_78 (by decide) (fun h_2 => absurd h_2 (by decide)) (fun h_2 => ?_)
          refine hg_bipush (v := (-5)) d_M_see_81 (by decide) ?_
          refine hg_goto (tgt := 87) d_M_see_83 (by decide) ?_
          refine hg_iast_n (j := ((gL G 0).1)) d_M_see_87 rfl rfl (hX.lt (n := 28) ⟨by decide, by decide⟩ rfl (by omega)) (hX.jn (n := 5) (by decide) rfl (by omega)) ?_
          refine hg_aload0 d_M_see_88 ?_
          refine hg_getI d_M_see_89 f_M_282 rfl rfl (hX.lt (n := 1) ⟨by decide, by decide⟩ rfl (by omega)) ?_
          refine hg_eq1 (y := nI ((gL G 0).1 + 1)) (by simp [hg_u3]) ?_
          refine hg_ireturn d_M_see_92 rfl rfl ?_
          have hz : so_see G (nI m) (-1) = (nI ((gL G 0).1 + 1), gsL G 0 (hs_Ladd (gL G 0) (nI m) (-1))) := by simp [so_see, iha, hfn, so_ladd, hn1]
          rw [hz]
          exact ⟨rfl, _, Lg, rfl, hM0.a0 (show _ = if (-1 : Int32) = -1 then _ else _ from (if_pos rfl).symm), fun k hk => by funext a b; (repeat rw [hg_u3k (by omega)]), fun _ _ => rfl⟩
        · replace hf := Decidable.not_not.mp hf
          have hfy : (gL G 0).1 = 5 := (nI_eq (b := 5) (by omega) (by decide)).mp hf
          refine hg_bipush (v := (-4)) d_M_see_48 (by decide) ?_
          refine hg_ireturn d_M_see_50 rfl rfl ?_
          have hz : so_see G (nI m) (-1) = (-4, G) := by simp [so_see, iha, hfy, so_ladd, hn1]
          rw [hz]
          exact ⟨rfl, I, Lg, rfl, hM0, fun _ _ => rfl, fun _ _ => rfl⟩
      · have iha : hs_ix 13 x = none := hs_ix_n2 hha
        refine hg_if_ne (tgt := 40) d_M_see_34 (by decide) (fun h_3 => absurd h_3 (by decide)) (fun h_3 => ?_)
        refine hg_bipush (v := (-2)) d_M_see_37 (by decide) ?_
        refine hg_ireturn d_M_see_39 rfl rfl ?_
        have hz : so_see G x (-1) = (-2, G) := by simp [so_see, iha, hn1]
        rw [hz]
        exact ⟨rfl, I, Lg, rfl, hM0, fun _ _ => rfl, fun _ _ => rfl⟩
    · refine hg_aload0 d_M_see_17 ?_
      refine hg_iload2 d_M_see_18 ?_
      refine hg_cVi d_M_see_19 l_M_115 rfl rfl (hX.lt (n := 1) ⟨by decide, by decide⟩ rfl (by omega)) rfl (Nat.le_of_ble_eq_true rfl) (m_M_isOne hX hM.1 hn6) rfl ?_
      rintro _ _ ⟨⟨hhb, rfl⟩ | ⟨hhb, rfl⟩, rfl⟩
      · obtain ⟨k, hk, ek⟩ := hhb
        have ihb : hs_ix (hs_n (gN G)) y = some k := by rw [ek]; exact hs_ix_s hk (by omega)
        subst ek
        show hg_WP l E _ Y_M_see 0 0 22 [some (.ref (hg_ad E 21 0)), some (.int x), some (.int (nI k))] [.int 1] (I, Lg, Rf, X) _
        refine hg_if_ne (tgt := 27) d_M_see_22 (by decide) (fun h_4 => ?_) (fun h_4 => absurd (by decide) h_4)
        refine hg_iload1 d_M_see_27 ?_
        refine hg_iconst (v := 0) d_M_see_28 (by decide) ?_
        refine hg_bipush (v := 12) d_M_see_29 (by decide) ?_
        refine hg_cSi d_M_see_31 l_M_111 rfl (Nat.le_of_ble_eq_true rfl) (m_M_in0 (b := 12) (by decide)) rfl ?_
        rintro _ _ ⟨⟨hha, rfl⟩ | ⟨hha, rfl⟩, rfl⟩
        · obtain ⟨m, hm, em⟩ := hha
          have iha : hs_ix 13 x = some m := by rw [em]; exact hs_ix_s (by omega) (by decide)
          subst em
          show hg_WP l E _ Y_M_see 0 0 34 [some (.ref (hg_ad E 21 0)), some (.int (nI m)), some (.int (nI k))] [.int 1] (I, Lg, Rf, X) _
          refine hg_if_ne (tgt := 40) d_M_see_34 (by decide) (fun h_5 => ?_) (fun h_5 => absurd (by decide) h_5)
          refine hg_aload0 d_M_see_40 ?_
          refine hg_getI d_M_see_41 f_M_282 rfl rfl (hX.lt (n := 1) ⟨by decide, by decide⟩ rfl (by omega)) ?_
          refine hg_eq1 (y := nI (gL G 0).1) (hM0.1.2.1.1) ?_
          refine hg_iconst (v := 5) d_M_see_44 (by decide) ?_
          refine hg_icmp_ne (tgt := 51) d_M_see_45 (by decide) (fun hf => ?_) (fun hf => ?_)
          · have hfn : ¬ (gL G 0).1 = 5 := fun z => hf (by rw [z]; rfl)
            refine hg_aload0 d_M_see_51 ?_
            refine hg_getR d_M_see_52 f_M_64 rfl rfl (hX.lt (n := 1) ⟨by decide, by decide⟩ rfl (by omega)) (hR.m (j := 31) (q := (22, 16)) rfl) ?_
            refine hg_aload0 d_M_see_55 ?_
            refine hg_getI d_M_see_56 f_M_282 rfl rfl (hX.lt (n := 1) ⟨by decide, by decide⟩ rfl (by omega)) ?_
            refine hg_eq1 (y := nI (gL G 0).1) (hM0.1.2.1.1) ?_
            refine hg_iload1 d_M_see_59 ?_
            refine hg_iast_n (j := ((gL G 0).1)) d_M_see_60 rfl rfl (hX.lt (n := 28) ⟨by decide, by decide⟩ rfl (by omega)) (hX.jn (n := 5) (by decide) rfl (by omega)) ?_
            refine hg_aload0 d_M_see_61 ?_
            refine hg_getR d_M_see_62 f_M_67 rfl rfl (hX.lt (n := 1) ⟨by decide, by decide⟩ rfl (by omega)) (hR.m (j := 32) (q := (22, 17)) rfl) ?_
            refine hg_aload0 d_M_see_65 ?_
            refine hg_dup d_M_see_66 rfl ?_
            refine hg_getI d_M_see_67 f_M_282 rfl rfl (hX.lt (n := 1) ⟨by decide, by decide⟩ rfl (by omega)) ?_
            refine hg_eq1 (y := I 21 0 30) (by simp [hg_u3]) ?_
            refine hg_eq1 (y := nI (gL G 0).1) (hM0.1.2.1.1) ?_
            refine hg_dup_x1 d_M_see_70 rfl rfl ?_
            refine hg_iconst (v := 1) d_M_see_71 (by decide) ?_
            refine hg_iadd d_M_see_72 ?_
            refine hg_eq1 (y := nI ((gL G 0).1 + 1)) (nI_add _ _) ?_
            refine hg_putI d_M_see_73 f_M_282 rfl rfl (Or.inl rfl) rfl rfl (hX.lt (n := 1) ⟨by decide, by decide⟩ rfl (by omega)) ?_
            refine hg_iload2 d_M_see_76 ?_
            refine hg_iconst (v := (-1)) d_M_see_77 (by decide) ?_
            refine hg_icmp_ne (tgt := 86) d_M_see_78 (by decide) (fun h_6 => ?_) (fun h_6 => absurd (hh1) h_6)
            refine hg_iload2 d_M_see_86 ?_
            refine hg_iast_n (j := ((gL G 0).1)) d_M_see_87 rfl rfl (hX.lt (n := 28) ⟨by decide, by decide⟩ rfl (by omega)) (hX.jn (n := 5) (by decide) rfl (by omega)) ?_
            refine hg_aload0 d_M_see_88 ?_
            refine hg_getI d_M_see_89 f_M_282 rfl rfl (hX.lt (n := 1) ⟨by decide, by decide⟩ rfl (by omega)) ?_
            refine hg_eq1 (y := nI ((gL G 0).1 + 1)) (by simp [hg_u3]) ?_
            refine hg_ireturn d_M_see_92 rfl rfl ?_
            have hz : so_see G (nI m) (nI k) = (nI ((gL G 0).1 + 1), gsL G 0 (hs_Ladd (gL G 0) (nI m) (nI k))) := by simp [so_see, ihb, iha, hfn, so_ladd, hn1, hh1]
            rw [hz]
            exact ⟨rfl, _, Lg, rfl, hM0.a0 (show _ = if _ then _ else _ from (if_neg hh1).symm), fun k hk => by funext a b; (repeat rw [hg_u3k (by omega)]), fun _ _ => rfl⟩
          · replace hf := Decidable.not_not.mp hf
            have hfy : (gL G 0).1 = 5 := (nI_eq (b := 5) (by omega) (by decide)).mp hf
            refine hg_bipush (v := (-4)) d_M_see_48 (by decide) ?_
            refine hg_ireturn d_M_see_50 rfl rfl ?_
            have hz : so_see G (nI m) (nI k) = (-4, G) := by simp [so_see, ihb, iha, hfy, so_ladd, hn1, hh1]
            rw [hz]
            exact ⟨rfl, I, Lg, rfl, hM0, fun _ _ => rfl, fun _ _ => rfl⟩
        · have iha : hs_ix 13 x = none := hs_ix_n2 hha
          refine hg_if_ne (tgt := 40) d_M_see_34 (by decide) (fun h_7 => absurd h_7 (by decide)) (fun h_7 => ?_)
          refine hg_bipush (v := (-2)) d_M_see_37 (by decide) ?_
          refine hg_ireturn d_M_see_39 rfl rfl ?_
          have hz : so_see G x (nI k) = (-2, G) := by simp [so_see, ihb, iha, hn1, hh1]
          rw [hz]
          exact ⟨rfl, I, Lg, rfl, hM0, fun _ _ => rfl, fun _ _ => rfl⟩
      · have ihb : hs_ix (hs_n (gN G)) y = none := hs_ix_n hhb
        refine hg_if_ne (tgt := 27) d_M_see_22 (by decide) (fun h_8 => absurd h_8 (by decide)) (fun h_8 => ?_)
        refine hg_iconst (v := (-1)) d_M_see_25 (by decide) ?_
        refine hg_ireturn d_M_see_26 rfl rfl ?_
        have hz : so_see G x y = (-1, G) := by simp [so_see, ihb, hn1, hh1]
        rw [hz]
        exact ⟨rfl, I, Lg, rfl, hM0, fun _ _ => rfl, fun _ _ => rfl⟩
  · replace hn1 := Decidable.not_not.mp hn1
    refine hg_aload0 d_M_see_5 ?_
    refine hg_iconst (v := 0) d_M_see_6 (by decide) ?_
    refine hg_putI d_M_see_7 f_M_282 rfl rfl (Or.inl rfl) rfl rfl (hX.lt (n := 1) ⟨by decide, by decide⟩ rfl (by omega)) ?_
    refine hg_iconst (v := 0) d_M_see_10 (by decide) ?_
    refine hg_ireturn d_M_see_11 rfl rfl ?_
    have hz : so_see G x y = (0, gsL G 0 (0, (gL G 0).2)) := by simp [so_see, so_lemp, hn1]
    rw [hz]
    exact ⟨rfl, _, Lg, rfl, hM0.e0, fun k hk => by funext a b; exact hg_u3k (by omega), fun _ _ => rfl⟩

theorem m_M_plan {x y : Int32} (hX : hg_XS (gT G) X) (hR : hg_SR (gT G) Rf) (hM0 : hs_MR G I Lg) (hG : hs_gok G) : hg_MC l E (d + 3) Y_M_plan 0 0 [.ref (hg_ad E 21 0), .int x, .int y] (I, Lg, Rf, X) (hg_i (fun v M' => hs_MP v (so_plan G x y).1 (so_plan G x y).2 I Lg Rf X M')) := by
  have hM := hM0.1.1
  have hO := hG.1
  have hn6 := hO.1
  have hT := hM0.2.2.2.2.2.2.2
  have hw := hG.2.1
  have hL0 := hG.2.2.2.1 0 (by decide)
  have hL2 := hG.2.2.2.1 2 (by decide)
  have hL4 := hG.2.2.2.1 4 (by decide)
  replace hL0 : (gL G 0).1 ≤ 5 := hL0
  replace hL2 : (gL G 2).1 ≤ 10 := hL2
  replace hL4 : (gL G 4).1 ≤ 8 := hL4
  refine hg_mc k_M_plan (Nat.le_of_ble_eq_true rfl) ?_
  show hg_WP l E _ Y_M_plan 0 0 0 [some (.ref (hg_ad E 21 0)), some (.int x), some (.int y)] [] (I, Lg, Rf, X) _
  refine hg_iload1 d_M_plan_0 ?_
  refine hg_iconst (v := (-1)) d_M_plan_1 (by decide) ?_
  refine hg_icmp_ne (tgt := 12) d_M_plan_2 (by decide) (fun hn1 => ?_) (fun hn1 => ?_)
  · refine hg_iload1 d_M_plan_12 ?_
    refine hg_iconst (v := 0) d_M_plan_13 (by decide) ?_
    refine hg_iconst (v := 3) d_M_plan_14 (by decide) ?_
    refine hg_cSi d_M_plan_15 l_M_111 rfl (Nat.le_of_ble_eq_true rfl) (m_M_in0 (b := 3) (by decide)) rfl ?_
    rintro _ _ ⟨⟨hha, rfl⟩ | ⟨hha, rfl⟩, rfl⟩
    · obtain ⟨j, hj, ej⟩ := hha
      have iha : hs_ix 4 x = some j := by rw [ej]; exact hs_ix_s (by omega) (by decide)
      subst ej
      show hg_WP l E _ Y_M_plan 0 0 18 [some (.ref (hg_ad E 21 0)), some (.int (nI j)), some (.int y)] [.int 1] (I, Lg, Rf, X) _
      refine hg_if_eq (tgt := 33) d_M_plan_18 (by decide) (fun h_1 => absurd h_1 (by decide)) (fun h_1 => ?_)
      have h6_j : j = 0 ∨ j = 1 ∨ j = 2 ∨ j = 3 := by omega
      rcases h6_j with rfl | rfl | rfl | rfl
      · show hg_WP l E _ Y_M_plan 0 0 21 [some (.ref (hg_ad E 21 0)), some (.int 0), some (.int y)] [] (I, Lg, Rf, X) _
        replace iha : hs_ix 4 0 = some 0 := iha
        refine hg_iload1 d_M_plan_21 ?_
        refine hg_if_le (tgt := 35) d_M_plan_22 (by decide) (fun h_2 => ?_) (fun h_2 => absurd (by decide) h_2)
        refine hg_aload0 d_M_plan_35 ?_
        refine hg_getI d_M_plan_36 f_M_294 rfl rfl (hX.lt (n := 1) ⟨by decide, by decide⟩ rfl (by omega)) ?_
        refine hg_eq1 (y := nI (gL G 2).1) (hM0.1.2.2.1.1) ?_
        refine hg_bipush (v := 10) d_M_plan_39 (by decide) ?_
        refine hg_icmp_ne (tgt := 47) d_M_plan_41 (by decide) (fun hf => ?_) (fun hf => ?_)
        · have hfn : ¬ (gL G 2).1 = 10 := fun z => hf (by rw [z]; rfl)
          refine hg_aload0 d_M_plan_47 ?_
          refine hg_getR d_M_plan_48 f_M_70 rfl rfl (hX.lt (n := 1) ⟨by decide, by decide⟩ rfl (by omega)) (hR.m (j := 34) (q := (22, 18)) rfl) ?_
          refine hg_aload0 d_M_plan_51 ?_
          refine hg_getI d_M_plan_52 f_M_294 rfl rfl (hX.lt (n := 1) ⟨by decide, by decide⟩ rfl (by omega)) ?_
          refine hg_eq1 (y := nI (gL G 2).1) (hM0.1.2.2.1.1) ?_
          refine hg_iload1 d_M_plan_55 ?_
          refine hg_iast_n (j := ((gL G 2).1)) d_M_plan_56 rfl rfl (hX.lt (n := 28) ⟨by decide, by decide⟩ rfl (by omega)) (hX.jn (n := 10) (by decide) rfl (by omega)) ?_
          refine hg_aload0 d_M_plan_57 ?_
          refine hg_getR d_M_plan_58 f_M_73 rfl rfl (hX.lt (n := 1) ⟨by decide, by decide⟩ rfl (by omega)) (hR.m (j := 35) (q := (22, 19)) rfl) ?_
          refine hg_aload0 d_M_plan_61 ?_
          refine hg_dup d_M_plan_62 rfl ?_
          refine hg_getI d_M_plan_63 f_M_294 rfl rfl (hX.lt (n := 1) ⟨by decide, by decide⟩ rfl (by omega)) ?_
          refine hg_eq1 (y := I 21 0 33) (by simp [hg_u3]) ?_
          refine hg_eq1 (y := nI (gL G 2).1) (hM0.1.2.2.1.1) ?_
          refine hg_dup_x1 d_M_plan_66 rfl rfl ?_
          refine hg_iconst (v := 1) d_M_plan_67 (by decide) ?_
          refine hg_iadd d_M_plan_68 ?_
          refine hg_eq1 (y := nI ((gL G 2).1 + 1)) (nI_add _ _) ?_
          refine hg_putI d_M_plan_69 f_M_294 rfl rfl (Or.inl rfl) rfl rfl (hX.lt (n := 1) ⟨by decide, by decide⟩ rfl (by omega)) ?_
          refine hg_iload1 d_M_plan_72 ?_
          refine hg_if_ne (tgt := 80) d_M_plan_73 (by decide) (fun h_3 => absurd h_3 (by decide)) (fun h_3 => ?_)
          refine hg_iconst (v := 0) d_M_plan_76 (by decide) ?_
          refine hg_goto (tgt := 81) d_M_plan_77 (by decide) ?_
          refine hg_iast_n (j := ((gL G 2).1)) d_M_plan_81 rfl rfl (hX.lt (n := 28) ⟨by decide, by decide⟩ rfl (by omega)) (hX.jn (n := 10) (by decide) rfl (by omega)) ?_
          refine hg_aload0 d_M_plan_82 ?_
          refine hg_getI d_M_plan_83 f_M_294 rfl rfl (hX.lt (n := 1) ⟨by decide, by decide⟩ rfl (by omega)) ?_
          refine hg_eq1 (y := nI ((gL G 2).1 + 1)) (by simp [hg_u3]) ?_
          refine hg_ireturn d_M_plan_86 rfl rfl ?_
          show hs_MP _ (so_plan G 0 y).1 (so_plan G 0 y).2 I Lg Rf X _
          have hz : so_plan G 0 y = (nI ((gL G 2).1 + 1), gsL G 2 (hs_Ladd (gL G 2) 0 y)) := by simp [so_plan, iha, hfn, so_ladd, hn1]
          rw [hz]
          exact ⟨rfl, _, Lg, rfl, hM0.a2 rfl, fun k hk => by funext a b; (repeat rw [hg_u3k (by omega)]), fun _ _ => rfl⟩
        · replace hf := Decidable.not_not.mp hf
          have hfy : (gL G 2).1 = 10 := (nI_eq (b := 10) (by omega) (by decide)).mp hf
          refine hg_bipush (v := (-4)) d_M_plan_44 (by decide) ?_
          refine hg_ireturn d_M_plan_46 rfl rfl ?_
          show hs_MP _ (so_plan G 0 y).1 (so_plan G 0 y).2 I Lg Rf X _
          have hz : so_plan G 0 y = (-4, G) := by simp [so_plan, iha, hfy, so_ladd, hn1]
          rw [hz]
          exact ⟨rfl, I, Lg, rfl, hM0, fun _ _ => rfl, fun _ _ => rfl⟩
      · show hg_WP l E _ Y_M_plan 0 0 21 [some (.ref (hg_ad E 21 0)), some (.int 1), some (.int y)] [] (I, Lg, Rf, X) _
        replace iha : hs_ix 4 1 = some 1 := iha
        refine hg_iload1 d_M_plan_21 ?_
        refine hg_if_le (tgt := 35) d_M_plan_22 (by decide) (fun h_4 => absurd h_4 (by decide)) (fun h_4 => ?_)
        refine hg_aload0 d_M_plan_25 ?_
        refine hg_iload2 d_M_plan_26 ?_
        refine hg_cVi d_M_plan_27 l_M_115 rfl rfl (hX.lt (n := 1) ⟨by decide, by decide⟩ rfl (by omega)) rfl (Nat.le_of_ble_eq_true rfl) (m_M_isOne hX hM.1 hn6) rfl ?_
        rintro _ _ ⟨⟨hhb, rfl⟩ | ⟨hhb, rfl⟩, rfl⟩
        · obtain ⟨k, hk, ek⟩ := hhb
          have ihb : hs_ix (hs_n (gN G)) y = some k := by rw [ek]; exact hs_ix_s hk (by omega)
          subst ek
          show hg_WP l E _ Y_M_plan 0 0 30 [some (.ref (hg_ad E 21 0)), some (.int 1), some (.int (nI k))] [.int 1] (I, Lg, Rf, X) _
          refine hg_if_ne (tgt := 35) d_M_plan_30 (by decide) (fun h_5 => ?_) (fun h_5 => absurd (by decide) h_5)
          refine hg_aload0 d_M_plan_35 ?_
          refine hg_getI d_M_plan_36 f_M_294 rfl rfl (hX.lt (n := 1) ⟨by decide, by decide⟩ rfl (by omega)) ?_
          refine hg_eq1 (y := nI (gL G 2).1) (hM0.1.2.2.1.1) ?_
          refine hg_bipush (v := 10) d_M_plan_39 (by decide) ?_
          refine hg_icmp_ne (tgt := 47) d_M_plan_41 (by decide) (fun hf => ?_) (fun hf => ?_)
          · have hfn : ¬ (gL G 2).1 = 10 := fun z => hf (by rw [z]; rfl)
            refine hg_aload0 d_M_plan_47 ?_
            refine hg_getR d_M_plan_48 f_M_70 rfl rfl (hX.lt (n := 1) ⟨by decide, by decide⟩ rfl (by omega)) (hR.m (j := 34) (q := (22, 18)) rfl) ?_
            refine hg_aload0 d_M_plan_51 ?_
            refine hg_getI d_M_plan_52 f_M_294 rfl rfl (hX.lt (n := 1) ⟨by decide, by decide⟩ rfl (by omega)) ?_
            refine hg_eq1 (y := nI (gL G 2).1) (hM0.1.2.2.1.1) ?_
            refine hg_iload1 d_M_plan_55 ?_
            refine hg_iast_n (j := ((gL G 2).1)) d_M_plan_56 rfl rfl (hX.lt (n := 28) ⟨by decide, by decide⟩ rfl (by omega)) (hX.jn (n := 10) (by decide) rfl (by omega)) ?_
            refine hg_aload0 d_M_plan_57 ?_
            refine hg_getR d_M_plan_58 f_M_73 rfl rfl (hX.lt (n := 1) ⟨by decide, by decide⟩ rfl (by omega)) (hR.m (j := 35) (q := (22, 19)) rfl) ?_
            refine hg_aload0 d_M_plan_61 ?_
            refine hg_dup d_M_plan_62 rfl ?_
            refine hg_getI d_M_plan_63 f_M_294 rfl rfl (hX.lt (n := 1) ⟨by decide, by decide⟩ rfl (by omega)) ?_
            refine hg_eq1 (y := I 21 0 33) (by simp [hg_u3]) ?_
            refine hg_eq1 (y := nI (gL G 2).1) (hM0.1.2.2.1.1) ?_
            refine hg_dup_x1 d_M_plan_66 rfl rfl ?_
            refine hg_iconst (v := 1) d_M_plan_67 (by decide) ?_
            refine hg_iadd d_M_plan_68 ?_
            refine hg_eq1 (y := nI ((gL G 2).1 + 1)) (nI_add _ _) ?_
            refine hg_putI d_M_plan_69 f_M_294 rfl rfl (Or.inl rfl) rfl rfl (hX.lt (n := 1) ⟨by decide, by decide⟩ rfl (by omega)) ?_
            refine hg_iload1 d_M_plan_72 ?_
            refine hg_if_ne (tgt := 80) d_M_plan_73 (by decide) (fun h_6 => ?_) (fun h_6 => absurd (by decide) h_6)
            refine hg_iload2 d_M_plan_80 ?_
            refine hg_iast_n (j := ((gL G 2).1)) d_M_plan_81 rfl rfl (hX.lt (n := 28) ⟨by decide, by decide⟩ rfl (by omega)) (hX.jn (n := 10) (by decide) rfl (by omega)) ?_
            refine hg_aload0 d_M_plan_82 ?_
            refine hg_getI d_M_plan_83 f_M_294 rfl rfl (hX.lt (n := 1) ⟨by decide, by decide⟩ rfl (by omega)) ?_
            refine hg_eq1 (y := nI ((gL G 2).1 + 1)) (by simp [hg_u3]) ?_
            refine hg_ireturn d_M_plan_86 rfl rfl ?_
            show hs_MP _ (so_plan G 1 (nI k)).1 (so_plan G 1 (nI k)).2 I Lg Rf X _
            have hz : so_plan G 1 (nI k) = (nI ((gL G 2).1 + 1), gsL G 2 (hs_Ladd (gL G 2) 1 (nI k))) := by simp [so_plan, iha, ihb, hfn, so_ladd, hn1]
            rw [hz]
            exact ⟨rfl, _, Lg, rfl, hM0.a2 (show _ = if _ then _ else _ from (if_neg (by decide)).symm), fun k hk => by funext a b; (repeat rw [hg_u3k (by omega)]), fun _ _ => rfl⟩
          · replace hf := Decidable.not_not.mp hf
            have hfy : (gL G 2).1 = 10 := (nI_eq (b := 10) (by omega) (by decide)).mp hf
            refine hg_bipush (v := (-4)) d_M_plan_44 (by decide) ?_
            refine hg_ireturn d_M_plan_46 rfl rfl ?_
            show hs_MP _ (so_plan G 1 (nI k)).1 (so_plan G 1 (nI k)).2 I Lg Rf X _
            have hz : so_plan G 1 (nI k) = (-4, G) := by simp [so_plan, iha, ihb, hfy, so_ladd, hn1]
            rw [hz]
            exact ⟨rfl, I, Lg, rfl, hM0, fun _ _ => rfl, fun _ _ => rfl⟩
        · have ihb : hs_ix (hs_n (gN G)) y = none := hs_ix_n hhb
          refine hg_if_ne (tgt := 35) d_M_plan_30 (by decide) (fun h_7 => absurd h_7 (by decide)) (fun h_7 => ?_)
          refine hg_iconst (v := (-1)) d_M_plan_33 (by decide) ?_
          refine hg_ireturn d_M_plan_34 rfl rfl ?_
          show hs_MP _ (so_plan G 1 y).1 (so_plan G 1 y).2 I Lg Rf X _
          have hz : so_plan G 1 y = (-1, G) := by simp [so_plan, iha, ihb, hn1]
          rw [hz]
          exact ⟨rfl, I, Lg, rfl, hM0, fun _ _ => rfl, fun _ _ => rfl⟩
      · show hg_WP l E _ Y_M_plan 0 0 21 [some (.ref (hg_ad E 21 0)), some (.int 2), some (.int y)] [] (I, Lg, Rf, X) _
        replace iha : hs_ix 4 2 = some 2 := iha
        refine hg_iload1 d_M_plan_21 ?_
        refine hg_if_le (tgt := 35) d_M_plan_22 (by decide) (fun h_8 => absurd h_8 (by decide)) (fun h_8 => ?_)
        refine hg_aload0 d_M_plan_25 ?_
        refine hg_iload2 d_M_plan_26 ?_
        refine hg_cVi d_M_plan_27 l_M_115 rfl rfl (hX.lt (n := 1) ⟨by decide, by decide⟩ rfl (by omega)) rfl (Nat.le_of_ble_eq_true rfl) (m_M_isOne hX hM.1 hn6) rfl ?_
        rintro _ _ ⟨⟨hhb, rfl⟩ | ⟨hhb, rfl⟩, rfl⟩
        · obtain ⟨k, hk, ek⟩ := hhb
          have ihb : hs_ix (hs_n (gN G)) y = some k := by rw [ek]; exact hs_ix_s hk (by omega)
          subst ek
          show hg_WP l E _ Y_M_plan 0 0 30 [some (.ref (hg_ad E 21 0)), some (.int 2), some (.int (nI k))] [.int 1] (I, Lg, Rf, X) _
          refine hg_if_ne (tgt := 35) d_M_plan_30 (by decide) (fun h_9 => ?_) (fun h_9 => absurd (by decide) h_9)
          refine hg_aload0 d_M_plan_35 ?_
          refine hg_getI d_M_plan_36 f_M_294 rfl rfl (hX.lt (n := 1) ⟨by decide, by decide⟩ rfl (by omega)) ?_
          refine hg_eq1 (y := nI (gL G 2).1) (hM0.1.2.2.1.1) ?_
          refine hg_bipush (v := 10) d_M_plan_39 (by decide) ?_
          refine hg_icmp_ne (tgt := 47) d_M_plan_41 (by decide) (fun hf => ?_) (fun hf => ?_)
          · have hfn : ¬ (gL G 2).1 = 10 := fun z => hf (by rw [z]; rfl)
            refine hg_aload0 d_M_plan_47 ?_
            refine hg_getR d_M_plan_48 f_M_70 rfl rfl (hX.lt (n := 1) ⟨by decide, by decide⟩ rfl (by omega)) (hR.m (j := 34) (q := (22, 18)) rfl) ?_
            refine hg_aload0 d_M_plan_51 ?_
            refine hg_getI d_M_plan_52 f_M_294 rfl rfl (hX.lt (n := 1) ⟨by decide, by decide⟩ rfl (by omega)) ?_
            refine hg_eq1 (y := nI (gL G 2).1) (hM0.1.2.2.1.1) ?_
            refine hg_iload1 d_M_plan_55 ?_
            refine hg_iast_n (j := ((gL G 2).1)) d_M_plan_56 rfl rfl (hX.lt (n := 28) ⟨by decide, by decide⟩ rfl (by omega)) (hX.jn (n := 10) (by decide) rfl (by omega)) ?_
            refine hg_aload0 d_M_plan_57 ?_
            refine hg_getR d_M_plan_58 f_M_73 rfl rfl (hX.lt (n := 1) ⟨by decide, by decide⟩ rfl (by omega)) (hR.m (j := 35) (q := (22, 19)) rfl) ?_
            refine hg_aload0 d_M_plan_61 ?_
            refine hg_dup d_M_plan_62 rfl ?_
            refine hg_getI d_M_plan_63 f_M_294 rfl rfl (hX.lt (n := 1) ⟨by decide, by decide⟩ rfl (by omega)) ?_
            refine hg_eq1 (y := I 21 0 33) (by simp [hg_u3]) ?_
            refine hg_eq1 (y := nI (gL G 2).1) (hM0.1.2.2.1.1) ?_
            refine hg_dup_x1 d_M_plan_66 rfl rfl ?_
            refine hg_iconst (v := 1) d_M_plan_67 (by decide) ?_
            refine hg_iadd d_M_plan_68 ?_
            refine hg_eq1 (y := nI ((gL G 2).1 + 1)) (nI_add _ _) ?_
            refine hg_putI d_M_plan_69 f_M_294 rfl rfl (Or.inl rfl) rfl rfl (hX.lt (n := 1) ⟨by decide, by decide⟩ rfl (by omega)) ?_
            refine hg_iload1 d_M_plan_72 ?_
            refine hg_if_ne (tgt := 80) d_M_plan_73 (by decide) (fun h_10 => ?_) (fun h_10 => absurd (by decide) h_10)
            refine hg_iload2 d_M_plan_80 ?_
            refine hg_iast_n (j := ((gL G 2).1)) d_M_plan_81 rfl rfl (hX.lt (n := 28) ⟨by decide, by decide⟩ rfl (by omega)) (hX.jn (n := 10) (by decide) rfl (by omega)) ?_
            refine hg_aload0 d_M_plan_82 ?_
            refine hg_getI d_M_plan_83 f_M_294 rfl rfl (hX.lt (n := 1) ⟨by decide, by decide⟩ rfl (by omega)) ?_
            refine hg_eq1 (y := nI ((gL G 2).1 + 1)) (by simp [hg_u3]) ?_
            refine hg_ireturn d_M_plan_86 rfl rfl ?_
            show hs_MP _ (so_plan G 2 (nI k)).1 (so_plan G 2 (nI k)).2 I Lg Rf X _
            have hz : so_plan G 2 (nI k) = (nI ((gL G 2).1 + 1), gsL G 2 (hs_Ladd (gL G 2) 2 (nI k))) := by simp [so_plan, iha, ihb, hfn, so_ladd, hn1]
            rw [hz]
            exact ⟨rfl, _, Lg, rfl, hM0.a2 (show _ = if _ then _ else _ from (if_neg (by decide)).symm), fun k hk => by funext a b; (repeat rw [hg_u3k (by omega)]), fun _ _ => rfl⟩
          · replace hf := Decidable.not_not.mp hf
            have hfy : (gL G 2).1 = 10 := (nI_eq (b := 10) (by omega) (by decide)).mp hf
            refine hg_bipush (v := (-4)) d_M_plan_44 (by decide) ?_
            refine hg_ireturn d_M_plan_46 rfl rfl ?_
            show hs_MP _ (so_plan G 2 (nI k)).1 (so_plan G 2 (nI k)).2 I Lg Rf X _
            have hz : so_plan G 2 (nI k) = (-4, G) := by simp [so_plan, iha, ihb, hfy, so_ladd, hn1]
            rw [hz]
            exact ⟨rfl, I, Lg, rfl, hM0, fun _ _ => rfl, fun _ _ => rfl⟩
        · have ihb : hs_ix (hs_n (gN G)) y = none := hs_ix_n hhb
          refine hg_if_ne (tgt := 35) d_M_plan_30 (by decide) (fun h_11 => absurd h_11 (by decide)) (fun h_11 => ?_)
          refine hg_iconst (v := (-1)) d_M_plan_33 (by decide) ?_
          refine hg_ireturn d_M_plan_34 rfl rfl ?_
          show hs_MP _ (so_plan G 2 y).1 (so_plan G 2 y).2 I Lg Rf X _
          have hz : so_plan G 2 y = (-1, G) := by simp [so_plan, iha, ihb, hn1]
          rw [hz]
          exact ⟨rfl, I, Lg, rfl, hM0, fun _ _ => rfl, fun _ _ => rfl⟩
      · show hg_WP l E _ Y_M_plan 0 0 21 [some (.ref (hg_ad E 21 0)), some (.int 3), some (.int y)] [] (I, Lg, Rf, X) _
        replace iha : hs_ix 4 3 = some 3 := iha
        refine hg_iload1 d_M_plan_21 ?_
        refine hg_if_le (tgt := 35) d_M_plan_22 (by decide) (fun h_12 => absurd h_12 (by decide)) (fun h_12 => ?_)
        refine hg_aload0 d_M_plan_25 ?_
        refine hg_iload2 d_M_plan_26 ?_
        refine hg_cVi d_M_plan_27 l_M_115 rfl rfl (hX.lt (n := 1) ⟨by decide, by decide⟩ rfl (by omega)) rfl (Nat.le_of_ble_eq_true rfl) (m_M_isOne hX hM.1 hn6) rfl ?_
        rintro _ _ ⟨⟨hhb, rfl⟩ | ⟨hhb, rfl⟩, rfl⟩
        · obtain ⟨k, hk, ek⟩ := hhb
          have ihb : hs_ix (hs_n (gN G)) y = some k := by rw [ek]; exact hs_ix_s hk (by omega)
          subst ek
          show hg_WP l E _ Y_M_plan 0 0 30 [some (.ref (hg_ad E 21 0)), some (.int 3), some (.int (nI k))] [.int 1] (I, Lg, Rf, X) _
          refine hg_if_ne (tgt := 35) d_M_plan_30 (by decide) (fun h_13 => ?_) (fun h_13 => absurd (by decide) h_13)
          refine hg_aload0 d_M_plan_35 ?_
          refine hg_getI d_M_plan_36 f_M_294 rfl rfl (hX.lt (n := 1) ⟨by decide, by decide⟩ rfl (by omega)) ?_
          refine hg_eq1 (y := nI (gL G 2).1) (hM0.1.2.2.1.1) ?_
          refine hg_bipush (v := 10) d_M_plan_39 (by decide) ?_
          refine hg_icmp_ne (tgt := 47) d_M_plan_41 (by decide) (fun hf => ?_) (fun hf => ?_)
          · have hfn : ¬ (gL G 2).1 = 10 := fun z => hf (by rw [z]; rfl)
            refine hg_aload0 d_M_plan_47 ?_
            refine hg_getR d_M_plan_48 f_M_70 rfl rfl (hX.lt (n := 1) ⟨by decide, by decide⟩ rfl (by omega)) (hR.m (j := 34) (q := (22, 18)) rfl) ?_
            refine hg_aload0 d_M_plan_51 ?_
            refine hg_getI d_M_plan_52 f_M_294 rfl rfl (hX.lt (n := 1) ⟨by decide, by decide⟩ rfl (by omega)) ?_
            refine hg_eq1 (y := nI (gL G 2).1) (hM0.1.2.2.1.1) ?_
            refine hg_iload1 d_M_plan_55 ?_
            refine hg_iast_n (j := ((gL G 2).1)) d_M_plan_56 rfl rfl (hX.lt (n := 28) ⟨by decide, by decide⟩ rfl (by omega)) (hX.jn (n := 10) (by decide) rfl (by omega)) ?_
            refine hg_aload0 d_M_plan_57 ?_
            refine hg_getR d_M_plan_58 f_M_73 rfl rfl (hX.lt (n := 1) ⟨by decide, by decide⟩ rfl (by omega)) (hR.m (j := 35) (q := (22, 19)) rfl) ?_
            refine hg_aload0 d_M_plan_61 ?_
            refine hg_dup d_M_plan_62 rfl ?_
            refine hg_getI d_M_plan_63 f_M_294 rfl rfl (hX.lt (n := 1) ⟨by decide, by decide⟩ rfl (by omega)) ?_
            refine hg_eq1 (y := I 21 0 33) (by simp [hg_u3]) ?_
            refine hg_eq1 (y := nI (gL G 2).1) (hM0.1.2.2.1.1) ?_
            refine hg_dup_x1 d_M_plan_66 rfl rfl ?_
            refine hg_iconst (v := 1) d_M_plan_67 (by decide) ?_
            refine hg_iadd d_M_plan_68 ?_
            refine hg_eq1 (y := nI ((gL G 2).1 + 1)) (nI_add _ _) ?_
            refine hg_putI d_M_plan_69 f_M_294 rfl rfl (Or.inl rfl) rfl rfl (hX.lt (n := 1) ⟨by decide, by decide⟩ rfl (by omega)) ?_
            refine hg_iload1 d_M_plan_72 ?_
            refine hg_if_ne (tgt := 80) d_M_plan_73 (by decide) (fun h_14 => ?_) (fun h_14 => absurd (by decide) h_14)
            refine hg_iload2 d_M_plan_80 ?_
            refine hg_iast_n (j := ((gL G 2).1)) d_M_plan_81 rfl rfl (hX.lt (n := 28) ⟨by decide, by decide⟩ rfl (by omega)) (hX.jn (n := 10) (by decide) rfl (by omega)) ?_
            refine hg_aload0 d_M_plan_82 ?_
            refine hg_getI d_M_plan_83 f_M_294 rfl rfl (hX.lt (n := 1) ⟨by decide, by decide⟩ rfl (by omega)) ?_
            refine hg_eq1 (y := nI ((gL G 2).1 + 1)) (by simp [hg_u3]) ?_
            refine hg_ireturn d_M_plan_86 rfl rfl ?_
            show hs_MP _ (so_plan G 3 (nI k)).1 (so_plan G 3 (nI k)).2 I Lg Rf X _
            have hz : so_plan G 3 (nI k) = (nI ((gL G 2).1 + 1), gsL G 2 (hs_Ladd (gL G 2) 3 (nI k))) := by simp [so_plan, iha, ihb, hfn, so_ladd, hn1]
            rw [hz]
            exact ⟨rfl, _, Lg, rfl, hM0.a2 (show _ = if _ then _ else _ from (if_neg (by decide)).symm), fun k hk => by funext a b; (repeat rw [hg_u3k (by omega)]), fun _ _ => rfl⟩
          · replace hf := Decidable.not_not.mp hf
            have hfy : (gL G 2).1 = 10 := (nI_eq (b := 10) (by omega) (by decide)).mp hf
            refine hg_bipush (v := (-4)) d_M_plan_44 (by decide) ?_
            refine hg_ireturn d_M_plan_46 rfl rfl ?_
            show hs_MP _ (so_plan G 3 (nI k)).1 (so_plan G 3 (nI k)).2 I Lg Rf X _
            have hz : so_plan G 3 (nI k) = (-4, G) := by simp [so_plan, iha, ihb, hfy, so_ladd, hn1]
            rw [hz]
            exact ⟨rfl, I, Lg, rfl, hM0, fun _ _ => rfl, fun _ _ => rfl⟩
        · have ihb : hs_ix (hs_n (gN G)) y = none := hs_ix_n hhb
          refine hg_if_ne (tgt := 35) d_M_plan_30 (by decide) (fun h_15 => absurd h_15 (by decide)) (fun h_15 => ?_)
          refine hg_iconst (v := (-1)) d_M_plan_33 (by decide) ?_
          refine hg_ireturn d_M_plan_34 rfl rfl ?_
          show hs_MP _ (so_plan G 3 y).1 (so_plan G 3 y).2 I Lg Rf X _
          have hz : so_plan G 3 y = (-1, G) := by simp [so_plan, iha, ihb, hn1]
          rw [hz]
          exact ⟨rfl, I, Lg, rfl, hM0, fun _ _ => rfl, fun _ _ => rfl⟩
    · have iha : hs_ix 4 x = none := hs_ix_n2 hha
      refine hg_if_eq (tgt := 33) d_M_plan_18 (by decide) (fun h_16 => ?_) (fun h_16 => absurd (by decide) h_16)
      refine hg_iconst (v := (-1)) d_M_plan_33 (by decide) ?_
      refine hg_ireturn d_M_plan_34 rfl rfl ?_
      have hz : so_plan G x y = (-1, G) := by simp [so_plan, iha, hn1]
      rw [hz]
      exact ⟨rfl, I, Lg, rfl, hM0, fun _ _ => rfl, fun _ _ => rfl⟩
  · replace hn1 := Decidable.not_not.mp hn1
    refine hg_aload0 d_M_plan_5 ?_
    refine hg_iconst (v := 0) d_M_plan_6 (by decide) ?_
    refine hg_putI d_M_plan_7 f_M_294 rfl rfl (Or.inl rfl) rfl rfl (hX.lt (n := 1) ⟨by decide, by decide⟩ rfl (by omega)) ?_
    refine hg_iconst (v := 0) d_M_plan_10 (by decide) ?_
    refine hg_ireturn d_M_plan_11 rfl rfl ?_
    have hz : so_plan G x y = (0, gsL G 2 (0, (gL G 2).2)) := by simp [so_plan, so_lemp, hn1]
    rw [hz]
    exact ⟨rfl, _, Lg, rfl, hM0.e2, fun k hk => by funext a b; exact hg_u3k (by omega), fun _ _ => rfl⟩

theorem m_M_book {x y : Int32} (hX : hg_XS (gT G) X) (hR : hg_SR (gT G) Rf) (hM0 : hs_MR G I Lg) (hG : hs_gok G) : hg_MC l E (d + 3) Y_M_book 0 0 [.ref (hg_ad E 21 0), .int x, .int y] (I, Lg, Rf, X) (hg_i (fun v M' => hs_MP v (so_book G x y).1 (so_book G x y).2 I Lg Rf X M')) := by
  have hM := hM0.1.1
  have hO := hG.1
  have hn6 := hO.1
  have hT := hM0.2.2.2.2.2.2.2
  have hw := hG.2.1
  have hL0 := hG.2.2.2.1 0 (by decide)
  have hL2 := hG.2.2.2.1 2 (by decide)
  have hL4 := hG.2.2.2.1 4 (by decide)
  replace hL0 : (gL G 0).1 ≤ 5 := hL0
  replace hL2 : (gL G 2).1 ≤ 10 := hL2
  replace hL4 : (gL G 4).1 ≤ 8 := hL4
  refine hg_mc k_M_book (Nat.le_of_ble_eq_true rfl) ?_
  show hg_WP l E _ Y_M_book 0 0 0 [some (.ref (hg_ad E 21 0)), some (.int x), some (.int y)] [] (I, Lg, Rf, X) _
  refine hg_iload1 d_M_book_0 ?_
  refine hg_iconst (v := (-1)) d_M_book_1 (by decide) ?_
  refine hg_icmp_ne (tgt := 12) d_M_book_2 (by decide) (fun hn1 => ?_) (fun hn1 => ?_)
  · refine hg_aload0 d_M_book_12 ?_
    refine hg_iload1 d_M_book_13 ?_
    refine hg_cVi d_M_book_14 l_M_115 rfl rfl (hX.lt (n := 1) ⟨by decide, by decide⟩ rfl (by omega)) rfl (Nat.le_of_ble_eq_true rfl) (m_M_isOne hX hM.1 hn6) rfl ?_
    rintro _ _ ⟨⟨hha, rfl⟩ | ⟨hha, rfl⟩, rfl⟩
    · obtain ⟨k, hk, ek⟩ := hha
      have iha : hs_ix (hs_n (gN G)) x = some k := by rw [ek]; exact hs_ix_s hk (by omega)
      subst ek
      show hg_WP l E _ Y_M_book 0 0 17 [some (.ref (hg_ad E 21 0)), some (.int (nI k)), some (.int y)] [.int 1] (I, Lg, Rf, X) _
      refine hg_if_ne (tgt := 22) d_M_book_17 (by decide) (fun h_1 => ?_) (fun h_1 => absurd (by decide) h_1)
      refine hg_iload2 d_M_book_22 ?_
      refine hg_iconst (v := 0) d_M_book_23 (by decide) ?_
      refine hg_sipush (v := 9999) d_M_book_24 (by decide) ?_
      refine hg_cSi d_M_book_27 l_M_111 rfl (Nat.le_of_ble_eq_true rfl) (m_M_in0 (b := 9999) (by decide)) rfl ?_
      rintro _ _ ⟨⟨hhb, rfl⟩ | ⟨hhb, rfl⟩, rfl⟩
      · obtain ⟨m, hm, em⟩ := hhb
        have ihb : hs_ix 10000 y = some m := by rw [em]; exact hs_ix_s (by omega) (by decide)
        subst em
        show hg_WP l E _ Y_M_book 0 0 30 [some (.ref (hg_ad E 21 0)), some (.int (nI k)), some (.int (nI m))] [.int 1] (I, Lg, Rf, X) _
        refine hg_if_ne (tgt := 36) d_M_book_30 (by decide) (fun h_2 => ?_) (fun h_2 => absurd (by decide) h_2)
        refine hg_aload0 d_M_book_36 ?_
        refine hg_getI d_M_book_37 f_M_297 rfl rfl (hX.lt (n := 1) ⟨by decide, by decide⟩ rfl (by omega)) ?_
        refine hg_eq1 (y := nI (gL G 4).1) (hM0.1.2.2.2.1) ?_
        refine hg_bipush (v := 8) d_M_book_40 (by decide) ?_
        refine hg_icmp_ne (tgt := 48) d_M_book_42 (by decide) (fun hf => ?_) (fun hf => ?_)
        · have hfn : ¬ (gL G 4).1 = 8 := fun z => hf (by rw [z]; rfl)
          refine hg_aload0 d_M_book_48 ?_
          refine hg_getR d_M_book_49 f_M_76 rfl rfl (hX.lt (n := 1) ⟨by decide, by decide⟩ rfl (by omega)) (hR.m (j := 37) (q := (22, 20)) rfl) ?_
          refine hg_aload0 d_M_book_52 ?_
          refine hg_getI d_M_book_53 f_M_297 rfl rfl (hX.lt (n := 1) ⟨by decide, by decide⟩ rfl (by omega)) ?_
          refine hg_eq1 (y := nI (gL G 4).1) (hM0.1.2.2.2.1) ?_
          refine hg_iload1 d_M_book_56 ?_
          refine hg_iast_n (j := ((gL G 4).1)) d_M_book_57 rfl rfl (hX.lt (n := 28) ⟨by decide, by decide⟩ rfl (by omega)) (hX.jn (n := 8) (by decide) rfl (by omega)) ?_
          refine hg_aload0 d_M_book_58 ?_
          refine hg_getR d_M_book_59 f_M_79 rfl rfl (hX.lt (n := 1) ⟨by decide, by decide⟩ rfl (by omega)) (hR.m (j := 38) (q := (22, 21)) rfl) ?_
          refine hg_aload0 d_M_book_62 ?_
          refine hg_dup d_M_book_63 rfl ?_
          refine hg_getI d_M_book_64 f_M_297 rfl rfl (hX.lt (n := 1) ⟨by decide, by decide⟩ rfl (by omega)) ?_
          refine hg_eq1 (y := I 21 0 36) (by simp [hg_u3]) ?_
          refine hg_eq1 (y := nI (gL G 4).1) (hM0.1.2.2.2.1) ?_
          refine hg_dup_x1 d_M_book_67 rfl rfl ?_
          refine hg_iconst (v := 1) d_M_book_68 (by decide) ?_
          refine hg_iadd d_M_book_69 ?_
          refine hg_eq1 (y := nI ((gL G 4).1 + 1)) (nI_add _ _) ?_
          refine hg_putI d_M_book_70 f_M_297 rfl rfl (Or.inl rfl) rfl rfl (hX.lt (n := 1) ⟨by decide, by decide⟩ rfl (by omega)) ?_
          refine hg_iload2 d_M_book_73 ?_
          refine hg_iast_n (j := ((gL G 4).1)) d_M_book_74 rfl rfl (hX.lt (n := 28) ⟨by decide, by decide⟩ rfl (by omega)) (hX.jn (n := 8) (by decide) rfl (by omega)) ?_
          refine hg_aload0 d_M_book_75 ?_
          refine hg_getI d_M_book_76 f_M_297 rfl rfl (hX.lt (n := 1) ⟨by decide, by decide⟩ rfl (by omega)) ?_
          refine hg_eq1 (y := nI ((gL G 4).1 + 1)) (by simp [hg_u3]) ?_
          refine hg_ireturn d_M_book_79 rfl rfl ?_
          have hz : so_book G (nI k) (nI m) = (nI ((gL G 4).1 + 1), gsL G 4 (hs_Ladd (gL G 4) (nI k) (nI m))) := by simp [so_book, iha, ihb, hfn, so_ladd, hn1]
          rw [hz]
          exact ⟨rfl, _, Lg, rfl, hM0.a4 rfl, fun k hk => by funext a b; (repeat rw [hg_u3k (by omega)]), fun _ _ => rfl⟩
        · replace hf := Decidable.not_not.mp hf
          have hfy : (gL G 4).1 = 8 := (nI_eq (b := 8) (by omega) (by decide)).mp hf
          refine hg_bipush (v := (-4)) d_M_book_45 (by decide) ?_
          refine hg_ireturn d_M_book_47 rfl rfl ?_
          have hz : so_book G (nI k) (nI m) = (-4, G) := by simp [so_book, iha, ihb, hfy, so_ladd, hn1]
          rw [hz]
          exact ⟨rfl, I, Lg, rfl, hM0, fun _ _ => rfl, fun _ _ => rfl⟩
      · have ihb : hs_ix 10000 y = none := hs_ix_n2 hhb
        refine hg_if_ne (tgt := 36) d_M_book_30 (by decide) (fun h_3 => absurd h_3 (by decide)) (fun h_3 => ?_)
        refine hg_bipush (v := (-2)) d_M_book_33 (by decide) ?_
        refine hg_ireturn d_M_book_35 rfl rfl ?_
        have hz : so_book G (nI k) y = (-2, G) := by simp [so_book, iha, ihb, hn1]
        rw [hz]
        exact ⟨rfl, I, Lg, rfl, hM0, fun _ _ => rfl, fun _ _ => rfl⟩
    · have iha : hs_ix (hs_n (gN G)) x = none := hs_ix_n hha
      refine hg_if_ne (tgt := 22) d_M_book_17 (by decide) (fun h_4 => absurd h_4 (by decide)) (fun h_4 => ?_)
      refine hg_iconst (v := (-1)) d_M_book_20 (by decide) ?_
      refine hg_ireturn d_M_book_21 rfl rfl ?_
      have hz : so_book G x y = (-1, G) := by simp [so_book, iha, hn1]
      rw [hz]
      exact ⟨rfl, I, Lg, rfl, hM0, fun _ _ => rfl, fun _ _ => rfl⟩
  · replace hn1 := Decidable.not_not.mp hn1
    refine hg_aload0 d_M_book_5 ?_
    refine hg_iconst (v := 0) d_M_book_6 (by decide) ?_
    refine hg_putI d_M_book_7 f_M_297 rfl rfl (Or.inl rfl) rfl rfl (hX.lt (n := 1) ⟨by decide, by decide⟩ rfl (by omega)) ?_
    refine hg_iconst (v := 0) d_M_book_10 (by decide) ?_
    refine hg_ireturn d_M_book_11 rfl rfl ?_
    have hz : so_book G x y = (0, gsL G 4 (0, (gL G 4).2)) := by simp [so_book, so_lemp, hn1]
    rw [hz]
    exact ⟨rfl, _, Lg, rfl, hM0.e4, fun k hk => by funext a b; exact hg_u3k (by omega), fun _ _ => rfl⟩

end M35
