/-! the model: what a TEST looks at -/
section M26
variable {l : Launch} {E : hg_E} {d T : Nat}
variable {I : Nat → Nat → Nat → Int32} {Lg : Nat → Nat → Nat → Int64} {Rf : Nat → Nat → Nat → Option (Nat × Nat)} {X : Nat × (Nat → Nat) × (Nat → Nat → Nat)}
variable {σ : hs_S}
theorem m_M_letterOf {p a : Nat} (hX : hg_XS T X) (hR : hg_SR T Rf) (hM : hs_MS σ I) (hO : hs_ok T σ) (hp : p < hs_n σ) (ha : a < 6) : hg_MC l E (d + 1) Y_M_letterOf 0 0 [.ref (hg_ad E 21 0), .int (nI p), .int (nI a)] (I, Lg, Rf, X) (hg_i (fun v M' => v = hs_f σ p a ∧ M' = (I, Lg, Rf, X))) := by
  have hn6 := hO.1
  refine hg_mc k_M_letterOf (Nat.le_of_ble_eq_true rfl) ?_
  show hg_WP l E _ Y_M_letterOf 0 0 0 [some (.ref (hg_ad E 21 0)), some (.int (nI p)), some (.int (nI a))] [] (I, Lg, Rf, X) _
  have h6 : a = 0 ∨ a = 1 ∨ a = 2 ∨ a = 3 ∨ a = 4 ∨ a = 5 := by omega
  rcases h6 with rfl | rfl | rfl | rfl | rfl | rfl
  · show hg_WP l E _ Y_M_letterOf 0 0 0 [some (.ref (hg_ad E 21 0)), some (.int (nI p)), some (.int (nI 0))] [] (I, Lg, Rf, X) _
    refine hg_iload2 d_M_letterOf_0 ?_
    refine hg_tabI (off := 35) (tgt := 36) d_M_letterOf_1 (by decide) (by decide) rfl (by decide) ?_
    refine hg_iload1 d_M_letterOf_36 ?_
    refine hg_ireturn d_M_letterOf_37 rfl rfl ?_
    exact ⟨rfl, rfl⟩
  · show hg_WP l E _ Y_M_letterOf 0 0 0 [some (.ref (hg_ad E 21 0)), some (.int (nI p)), some (.int (nI 1))] [] (I, Lg, Rf, X) _
    refine hg_iload2 d_M_letterOf_0 ?_
    refine hg_tabI (off := 37) (tgt := 38) d_M_letterOf_1 (by decide) (by decide) rfl (by decide) ?_
    refine hg_aload0 d_M_letterOf_38 ?_
    refine hg_getR d_M_letterOf_39 f_M_9 rfl rfl (hX.lt (n := 1) ⟨by decide, by decide⟩ rfl (by omega)) (hR.m (j := 1) (q := (22, 0)) rfl) ?_
    refine hg_iload1 d_M_letterOf_42 ?_
    refine hg_iald_n (j := p) d_M_letterOf_43 rfl rfl (hX.lt (n := 28) ⟨by decide, by decide⟩ rfl (by omega)) (hX.jn (n := 6) (by decide) rfl (by omega)) ?_
    refine hg_eq1 (y := hs_hv σ p 0) (hM.2.2.2.2.2.2.2.1 p 0 hp (by decide)) ?_
    refine hg_ireturn d_M_letterOf_44 rfl rfl ?_
    exact ⟨rfl, rfl⟩
  · show hg_WP l E _ Y_M_letterOf 0 0 0 [some (.ref (hg_ad E 21 0)), some (.int (nI p)), some (.int (nI 2))] [] (I, Lg, Rf, X) _
    refine hg_iload2 d_M_letterOf_0 ?_
    refine hg_tabI (off := 44) (tgt := 45) d_M_letterOf_1 (by decide) (by decide) rfl (by decide) ?_
    refine hg_aload0 d_M_letterOf_45 ?_
    refine hg_getR d_M_letterOf_46 f_M_15 rfl rfl (hX.lt (n := 1) ⟨by decide, by decide⟩ rfl (by omega)) (hR.m (j := 2) (q := (22, 1)) rfl) ?_
    refine hg_iload1 d_M_letterOf_49 ?_
    refine hg_iald_n (j := p) d_M_letterOf_50 rfl rfl (hX.lt (n := 28) ⟨by decide, by decide⟩ rfl (by omega)) (hX.jn (n := 6) (by decide) rfl (by omega)) ?_
    refine hg_eq1 (y := hs_hv σ p 1) (hM.2.2.2.2.2.2.2.1 p 1 hp (by decide)) ?_
    refine hg_ireturn d_M_letterOf_51 rfl rfl ?_
    exact ⟨rfl, rfl⟩
  · show hg_WP l E _ Y_M_letterOf 0 0 0 [some (.ref (hg_ad E 21 0)), some (.int (nI p)), some (.int (nI 3))] [] (I, Lg, Rf, X) _
    refine hg_iload2 d_M_letterOf_0 ?_
    refine hg_tabI (off := 51) (tgt := 52) d_M_letterOf_1 (by decide) (by decide) rfl (by decide) ?_
    refine hg_aload0 d_M_letterOf_52 ?_
    refine hg_getR d_M_letterOf_53 f_M_21 rfl rfl (hX.lt (n := 1) ⟨by decide, by decide⟩ rfl (by omega)) (hR.m (j := 4) (q := (22, 3)) rfl) ?_
    refine hg_iload1 d_M_letterOf_56 ?_
    refine hg_iald_n (j := p) d_M_letterOf_57 rfl rfl (hX.lt (n := 28) ⟨by decide, by decide⟩ rfl (by omega)) (hX.jn (n := 6) (by decide) rfl (by omega)) ?_
    refine hg_eq1 (y := hs_hv σ p 3) (hM.2.2.2.2.2.2.2.1 p 3 hp (by decide)) ?_
    refine hg_ireturn d_M_letterOf_58 rfl rfl ?_
    exact ⟨rfl, rfl⟩
  · show hg_WP l E _ Y_M_letterOf 0 0 0 [some (.ref (hg_ad E 21 0)), some (.int (nI p)), some (.int (nI 4))] [] (I, Lg, Rf, X) _
    refine hg_iload2 d_M_letterOf_0 ?_
    refine hg_tabI (off := 58) (tgt := 59) d_M_letterOf_1 (by decide) (by decide) rfl (by decide) ?_
    refine hg_aload0 d_M_letterOf_59 ?_
    refine hg_getR d_M_letterOf_60 f_M_24 rfl rfl (hX.lt (n := 1) ⟨by decide, by decide⟩ rfl (by omega)) (hR.m (j := 5) (q := (22, 4)) rfl) ?_
    refine hg_iload1 d_M_letterOf_63 ?_
    refine hg_iald_n (j := p) d_M_letterOf_64 rfl rfl (hX.lt (n := 28) ⟨by decide, by decide⟩ rfl (by omega)) (hX.jn (n := 6) (by decide) rfl (by omega)) ?_
    refine hg_eq1 (y := hs_hv σ p 4) (hM.2.2.2.2.2.2.2.1 p 4 hp (by decide)) ?_
    refine hg_bipush (v := 10) d_M_letterOf_65 (by decide) ?_
    refine hg_irem d_M_letterOf_67 (by decide) ?_
    refine hg_ireturn d_M_letterOf_68 rfl rfl ?_
    exact ⟨rfl, rfl⟩
  · show hg_WP l E _ Y_M_letterOf 0 0 0 [some (.ref (hg_ad E 21 0)), some (.int (nI p)), some (.int (nI 5))] [] (I, Lg, Rf, X) _
    refine hg_iload2 d_M_letterOf_0 ?_
    refine hg_tabO (tgt := 69) d_M_letterOf_1 (by decide) (by decide) ?_
    refine hg_aload0 d_M_letterOf_69 ?_
    refine hg_getI d_M_letterOf_70 f_M_214 rfl rfl (hX.lt (n := 1) ⟨by decide, by decide⟩ rfl (by omega)) ?_
    refine hg_eq1 (y := nI (hs_wk σ)) (hM.2.2.2.2.1) ?_
    refine hg_bipush (v := 10) d_M_letterOf_73 (by decide) ?_
    refine hg_irem d_M_letterOf_75 (by decide) ?_
    refine hg_ireturn d_M_letterOf_76 rfl rfl ?_
    exact ⟨rfl, rfl⟩

end M26
