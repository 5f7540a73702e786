/-! the model reads THE TEXT: T, E, F -/
abbrev pm_H (l : Launch) (E : hg_E) (Lg : Nat → Nat → Nat → Int64) (Rf : Nat → Nat → Nat → Option (Nat × Nat)) (X : Nat × (Nat → Nat) × (Nat → Nat → Nat)) (n : Nat) (L : Nat → Int32) (q d : Nat) (Y : hg_Y) (F : Nat → ps_R) : Prop :=
  ∀ (p w : Nat) (I : Nat → Nat → Nat → Int32), pm_X n L I → I 21 0 16 = nI p → p ≤ n → I 21 0 28 = nI w → w ≤ 600 + p → I 21 0 19 = nI q → hg_MC l E d Y 0 0 [.ref (hg_ad E 21 0)] (I, Lg, Rf, X) (hg_i (fun v M' => ∃ I' : Nat → Nat → Nat → Int32, M' = (I', Lg, Rf, X) ∧ pm_P w p (F p) I I' v))
theorem ps_lp_f {n : Nat} {L : Nat → Int32} {c : Int32} {op : Bool → Bool → Bool} {F : Nat → ps_R} {q : ps_R} (h : ¬ q.1 = true) : ∀ k, ps_lp n L c op F k q = q
  | 0 => rfl
  | k + 1 => if_neg (fun z => h z.1)
section M48
variable {l : Launch} {E : hg_E} {d T : Nat}
variable {I : Nat → Nat → Nat → Int32} {Lg : Nat → Nat → Nat → Int64} {Rf : Nat → Nat → Nat → Option (Nat × Nat)} {X : Nat × (Nat → Nat) × (Nat → Nat → Nat)}
variable {n : Nat} {L : Nat → Int32} {I' I1 I2 : Nat → Nat → Nat → Int32}
theorem m_M_isT_loop {q p w : Nat} {F : Nat → ps_R} (hX : hg_XS T X) (hR : hg_SR T Rf) (hF : pm_H l E Lg Rf X n L q d Y_M_isF F) (hk : ps_ok n F) (hd : ∃ d2, d = d2 + 5) (hx : pm_X n L I) (ho : I 21 0 19 = nI q) (hw6 : w ≤ 600 + p) : ∀ (k p1 k1 : Nat) (den : (Nat → Int32) → Bool) (I1 : Nat → Nat → Nat → Int32), 101 ≤ p1 + k → p + k1 ≤ p1 → p1 ≤ n → I1 21 0 16 = nI p1 → I1 21 0 28 = nI (w + k1) → I1 21 0 19 = I 21 0 19 → hm_p I1 I → (∀ j, j < w → I1 22 15 j = I 22 15 j) → ps_me (I1 22 15) w k1 den → hg_WP l E (d) Y_M_isT 0 0 9 [some (.ref (hg_ad E 21 0))] [] (I1, Lg, Rf, X) (hg_i (fun v M' => ∃ I' : Nat → Nat → Nat → Int32, M' = (I', Lg, Rf, X) ∧ pm_P w p (ps_lp n L 38 and F k (true, p1, den)) I I' v)) := by
  obtain ⟨d2, rfl⟩ := hd
  have hn100 := hx.2.2.1
  intro k
  induction k with
  | zero => intro p1 k1 den I1 h1 h2 h3; omega
  | succ k ih =>
    intro p1 k1 den I1 hpk hk1 hp1 hat hcd hop hfr hlo hme
    refine hg_aload0 d_M_isT_9 ?_
    refine hg_bipush (v := 38) d_M_isT_10 (by decide) ?_
    refine hg_cVi d_M_isT_12 l_M_161 rfl rfl (hX.lt (n := 1) ⟨by decide, by decide⟩ rfl (by omega)) rfl (Nat.le_of_ble_eq_true rfl) (m_M_is (n := n) (L := L) (p := p1) (c := 38) hX hR (hx.k hfr) hat hp1) rfl ?_
    rintro _ _ (⟨hsg, rfl, rfl⟩ | ⟨hsg, rfl, rfl⟩)
    · have hlt := (ps_sg_t hsg).1
      obtain ⟨o1, o2, o3⟩ := hk (p1 + 1) (by omega)
      have hfr1 : hm_p (hg_u3 I1 21 0 16 (nI (p1 + 1))) I1 := hm_p.rf.u21 (Or.inl (by omega))
      have hx1 := (hx.k hfr).k hfr1
      refine hg_if_eq (tgt := 35) d_M_isT_15 (by decide) (fun h_1 => absurd h_1 (by decide)) (fun h_1 => ?_)
      refine hg_aload0 d_M_isT_18 ?_
      refine hg_cVi d_M_isT_19 l_M_186 rfl rfl (hX.lt (n := 1) ⟨by decide, by decide⟩ rfl (by omega)) rfl (Nat.le_of_ble_eq_true rfl) (hF (p1 + 1) (w + k1) _ hx1 (by rw [hg_u3s]) (by omega) (by rw [hg_u3r, if_neg (by decide)]; exact hcd) (by omega) (by rw [hg_u3r, if_neg (by decide), hop]; exact ho)) rfl ?_
      rintro _ _ ⟨I2, rfl, rfl, bat, bop, bfr, blo, bk, bpk, bcd, bme⟩
      by_cases bu : (F (p1 + 1)).1 = true
      · refine hg_eq1 (y := 1) (if_pos bu) ?_
        refine hg_if_eq (tgt := 33) d_M_isT_22 (by decide) (fun h_2 => absurd h_2 (by decide)) (fun h_2 => ?_)
        refine hg_aload0 d_M_isT_25 ?_
        refine hg_iconst (v := 1) d_M_isT_26 (by decide) ?_
        refine hg_cVi d_M_isT_27 l_M_177 rfl rfl (hX.lt (n := 1) ⟨by decide, by decide⟩ rfl (by omega)) rfl (Nat.le_of_ble_eq_true rfl) (m_M_codes (w := w + k1 + bk) hX hR bcd (by omega)) rfl ?_
        rintro _ _ ⟨rfl, rfl⟩
        refine hg_if_ne (tgt := 9) d_M_isT_30 (by decide) (fun h_3 => ?_) (fun h_3 => absurd (by decide) h_3)
        have hlow : ∀ j, j < w + k1 → I2 22 15 j = I1 22 15 j := fun j hj => (blo j hj).trans (hg_u3k (by omega))
        have hu : (ps_lp n L 38 and F (k + 1) (true, p1, den)) = (ps_lp n L 38 and F k (true, (F (p1 + 1)).2.1, fun f => and (den f) ((F (p1 + 1)).2.2 f))) := (if_pos ⟨rfl, hsg⟩).trans (by rw [bu])
        rw [hu]
        have hcel : ∀ j, j ≠ w + k1 + bk → (hg_u3 (hg_u3 I2 21 0 28 (nI (w + k1 + bk + 1))) 22 15 (w + k1 + bk) 1) 22 15 j = I2 22 15 j := fun j hj => by rw [hg_u3r, if_neg hj, hg_u3k (by omega)]
        have hm1 : ps_me ((hg_u3 (hg_u3 I2 21 0 28 (nI (w + k1 + bk + 1))) 22 15 (w + k1 + bk) 1) 22 15) w k1 den := hme.cg (fun j h1 h2 => (hcel j (by omega)).trans (hlow j (by omega)))
        have hm2 : ps_me ((hg_u3 (hg_u3 I2 21 0 28 (nI (w + k1 + bk + 1))) 22 15 (w + k1 + bk) 1) 22 15) (w + k1) bk (F (p1 + 1)).2.2 := (bme bu).cg (fun j h1 h2 => hcel j (by omega))
        refine ih (F (p1 + 1)).2.1 (k1 + bk + 1) _ _ (by omega) (by omega) o2 ?_ ?_ ?_ ((bfr.u21 (Or.inr rfl)).u22.tr (hfr1.tr hfr)) (fun j hj => (hcel j (by omega)).trans ((hlow j (by omega)).trans (hlo j hj))) (ps_me.bin (Or.inr ⟨rfl, rfl⟩) hm1 hm2 (by rw [hg_u3s]; rfl))
        · rw [hg_u3k (by omega), hg_u3r, if_neg (by decide)]; exact bat
        · rw [hg_u3k (by omega), hg_u3s]; exact congrArg nI (by omega)
        · rw [hg_u3k (by omega), hg_u3r, if_neg (by decide)]; exact bop.trans ((by rw [hg_u3r, if_neg (by decide)] : _ = I1 21 0 19).trans hop)
      · refine hg_eq1 (y := 0) (if_neg bu) ?_
        refine hg_if_eq (tgt := 33) d_M_isT_22 (by decide) (fun h_4 => ?_) (fun h_4 => absurd (by decide) h_4)
        refine hg_iconst (v := 0) d_M_isT_33 (by decide) ?_
        refine hg_ireturn d_M_isT_34 rfl (by decide) ?_
        have hu : (ps_lp n L 38 and F (k + 1) (true, p1, den)) = ((F (p1 + 1)).1, (F (p1 + 1)).2.1, fun f => and (den f) ((F (p1 + 1)).2.2 f)) := (if_pos ⟨rfl, hsg⟩).trans (ps_lp_f (by exact bu) k)
        rw [hu]
        have hlow : ∀ j, j < w + k1 → I2 22 15 j = I1 22 15 j := fun j hj => (blo j hj).trans (hg_u3k (by omega))
        exact ⟨I2, rfl, (if_neg bu).symm, bat, bop.trans ((by rw [hg_u3r, if_neg (by decide)] : _ = I1 21 0 19).trans hop), bfr.tr (hfr1.tr hfr), fun j hj => (hlow j (by omega)).trans (hlo j hj), k1 + bk, by show p + (k1 + bk) ≤ (F (p1 + 1)).2.1; omega, by rw [bcd, Nat.add_assoc], fun z => absurd z bu⟩
    · refine hg_if_eq (tgt := 35) d_M_isT_15 (by decide) (fun h_5 => ?_) (fun h_5 => absurd (by decide) h_5)
      refine hg_iconst (v := 1) d_M_isT_35 (by decide) ?_
      refine hg_ireturn d_M_isT_36 rfl (by decide) ?_
      have hu : (ps_lp n L 38 and F (k + 1) (true, p1, den)) = (true, p1, den) := if_neg (fun z => by rw [hsg] at z; exact absurd z.2 (by decide))
      rw [hu]
      exact ⟨I1, rfl, rfl, hat, hop, hfr, hlo, k1, hk1, hcd, fun _ => hme⟩
theorem m_M_isT {q : Nat} {F : Nat → ps_R} (hX : hg_XS T X) (hR : hg_SR T Rf) (hF : pm_H l E Lg Rf X n L q d Y_M_isF F) (hk : ps_ok n F) (hd : ∃ d2, d = d2 + 5) : pm_H l E Lg Rf X n L q (d + 1) Y_M_isT (fun p => ps_lp n L 38 and F 100 (F p)) := by
  intro p w I hx hp hpn hw hw6 ho
  obtain ⟨o1, o2, o3⟩ := hk p hpn
  have hn100 := hx.2.2.1
  refine hg_mc k_M_isT (Nat.le_of_ble_eq_true rfl) ?_
  show hg_WP l E _ Y_M_isT 0 0 0 [some (.ref (hg_ad E 21 0))] [] (I, Lg, Rf, X) _
  refine hg_aload0 d_M_isT_0 ?_
  refine hg_cVi d_M_isT_1 l_M_186 rfl rfl (hX.lt (n := 1) ⟨by decide, by decide⟩ rfl (by omega)) rfl (Nat.le_of_ble_eq_true rfl) (hF p w _ hx hp hpn hw hw6 ho) rfl ?_
  rintro _ _ ⟨I2, rfl, rfl, bat, bop, bfr, blo, bk, bpk, bcd, bme⟩
  by_cases bu : (F p).1 = true
  · refine hg_eq1 (y := 1) (if_pos bu) ?_
    refine hg_if_ne (tgt := 9) d_M_isT_4 (by decide) (fun h_1 => ?_) (fun h_1 => absurd (by decide) h_1)
    show hg_WP l E _ Y_M_isT 0 0 9 [some (.ref (hg_ad E 21 0))] [] (I2, Lg, Rf, X) (hg_i (fun v M' => ∃ I' : Nat → Nat → Nat → Int32, M' = (I', Lg, Rf, X) ∧ pm_P w p (ps_lp n L 38 and F 100 (F p)) I I' v))
    have o4 := o3 bu
    rw [show F p = (true, (F p).2.1, (F p).2.2) from by rw [← bu]]
    exact m_M_isT_loop hX hR hF hk hd hx ho hw6 100 (F p).2.1 bk (F p).2.2 I2 (by omega) bpk o2 bat bcd bop bfr blo (bme bu)
  · refine hg_eq1 (y := 0) (if_neg bu) ?_
    refine hg_if_ne (tgt := 9) d_M_isT_4 (by decide) (fun h_2 => absurd h_2 (by decide)) (fun h_2 => ?_)
    refine hg_iconst (v := 0) d_M_isT_7 (by decide) ?_
    refine hg_ireturn d_M_isT_8 rfl (by decide) ?_
    show ∃ I' : Nat → Nat → Nat → Int32, (I2, Lg, Rf, X) = (I', Lg, Rf, X) ∧ pm_P w p (ps_lp n L 38 and F 100 (F p)) I I' 0
    rw [ps_lp_f bu 100]
    exact ⟨I2, rfl, (if_neg bu).symm, bat, bop, bfr, blo, bk, bpk, bcd, bme⟩
theorem m_M_isE_loop {q p w : Nat} {F : Nat → ps_R} (hX : hg_XS T X) (hR : hg_SR T Rf) (hF : pm_H l E Lg Rf X n L q d Y_M_isT F) (hk : ps_ok n F) (hd : ∃ d2, d = d2 + 5) (hx : pm_X n L I) (ho : I 21 0 19 = nI q) (hw6 : w ≤ 600 + p) : ∀ (k p1 k1 : Nat) (den : (Nat → Int32) → Bool) (I1 : Nat → Nat → Nat → Int32), 101 ≤ p1 + k → p + k1 ≤ p1 → p1 ≤ n → I1 21 0 16 = nI p1 → I1 21 0 28 = nI (w + k1) → I1 21 0 19 = I 21 0 19 → hm_p I1 I → (∀ j, j < w → I1 22 15 j = I 22 15 j) → ps_me (I1 22 15) w k1 den → hg_WP l E (d) Y_M_isE 0 0 9 [some (.ref (hg_ad E 21 0))] [] (I1, Lg, Rf, X) (hg_i (fun v M' => ∃ I' : Nat → Nat → Nat → Int32, M' = (I', Lg, Rf, X) ∧ pm_P w p (ps_lp n L 124 or F k (true, p1, den)) I I' v)) := by
  obtain ⟨d2, rfl⟩ := hd
  have hn100 := hx.2.2.1
  intro k
  induction k with
  | zero => intro p1 k1 den I1 h1 h2 h3; omega
  | succ k ih =>
    intro p1 k1 den I1 hpk hk1 hp1 hat hcd hop hfr hlo hme
    refine hg_aload0 d_M_isE_9 ?_
    refine hg_bipush (v := 124) d_M_isE_10 (by decide) ?_
    refine hg_cVi d_M_isE_12 l_M_161 rfl rfl (hX.lt (n := 1) ⟨by decide, by decide⟩ rfl (by omega)) rfl (Nat.le_of_ble_eq_true rfl) (m_M_is (n := n) (L := L) (p := p1) (c := 124) hX hR (hx.k hfr) hat hp1) rfl ?_
    rintro _ _ (⟨hsg, rfl, rfl⟩ | ⟨hsg, rfl, rfl⟩)
    · have hlt := (ps_sg_t hsg).1
      obtain ⟨o1, o2, o3⟩ := hk (p1 + 1) (by omega)
      have hfr1 : hm_p (hg_u3 I1 21 0 16 (nI (p1 + 1))) I1 := hm_p.rf.u21 (Or.inl (by omega))
      have hx1 := (hx.k hfr).k hfr1
      refine hg_if_eq (tgt := 35) d_M_isE_15 (by decide) (fun h_1 => absurd h_1 (by decide)) (fun h_1 => ?_)
      refine hg_aload0 d_M_isE_18 ?_
      refine hg_cVi d_M_isE_19 l_M_195 rfl rfl (hX.lt (n := 1) ⟨by decide, by decide⟩ rfl (by omega)) rfl (Nat.le_of_ble_eq_true rfl) (hF (p1 + 1) (w + k1) _ hx1 (by rw [hg_u3s]) (by omega) (by rw [hg_u3r, if_neg (by decide)]; exact hcd) (by omega) (by rw [hg_u3r, if_neg (by decide), hop]; exact ho)) rfl ?_
      rintro _ _ ⟨I2, rfl, rfl, bat, bop, bfr, blo, bk, bpk, bcd, bme⟩
      by_cases bu : (F (p1 + 1)).1 = true
      · refine hg_eq1 (y := 1) (if_pos bu) ?_
        refine hg_if_eq (tgt := 33) d_M_isE_22 (by decide) (fun h_2 => absurd h_2 (by decide)) (fun h_2 => ?_)
        refine hg_aload0 d_M_isE_25 ?_
        refine hg_iconst (v := 2) d_M_isE_26 (by decide) ?_
        refine hg_cVi d_M_isE_27 l_M_177 rfl rfl (hX.lt (n := 1) ⟨by decide, by decide⟩ rfl (by omega)) rfl (Nat.le_of_ble_eq_true rfl) (m_M_codes (w := w + k1 + bk) hX hR bcd (by omega)) rfl ?_
        rintro _ _ ⟨rfl, rfl⟩
        refine hg_if_ne (tgt := 9) d_M_isE_30 (by decide) (fun h_3 => ?_) (fun h_3 => absurd (by decide) h_3)
        have hlow : ∀ j, j < w + k1 → I2 22 15 j = I1 22 15 j := fun j hj => (blo j hj).trans (hg_u3k (by omega))
        have hu : (ps_lp n L 124 or F (k + 1) (true, p1, den)) = (ps_lp n L 124 or F k (true, (F (p1 + 1)).2.1, fun f => or (den f) ((F (p1 + 1)).2.2 f))) := (if_pos ⟨rfl, hsg⟩).trans (by rw [bu])
        rw [hu]
        have hcel : ∀ j, j ≠ w + k1 + bk → (hg_u3 (hg_u3 I2 21 0 28 (nI (w + k1 + bk + 1))) 22 15 (w + k1 + bk) 2) 22 15 j = I2 22 15 j := fun j hj => by rw [hg_u3r, if_neg hj, hg_u3k (by omega)]
        have hm1 : ps_me ((hg_u3 (hg_u3 I2 21 0 28 (nI (w + k1 + bk + 1))) 22 15 (w + k1 + bk) 2) 22 15) w k1 den := hme.cg (fun j h1 h2 => (hcel j (by omega)).trans (hlow j (by omega)))
        have hm2 : ps_me ((hg_u3 (hg_u3 I2 21 0 28 (nI (w + k1 + bk + 1))) 22 15 (w + k1 + bk) 2) 22 15) (w + k1) bk (F (p1 + 1)).2.2 := (bme bu).cg (fun j h1 h2 => hcel j (by omega))
        refine ih (F (p1 + 1)).2.1 (k1 + bk + 1) _ _ (by omega) (by omega) o2 ?_ ?_ ?_ ((bfr.u21 (Or.inr rfl)).u22.tr (hfr1.tr hfr)) (fun j hj => (hcel j (by omega)).trans ((hlow j (by omega)).trans (hlo j hj))) (ps_me.bin (Or.inl ⟨rfl, rfl⟩) hm1 hm2 (by rw [hg_u3s]; rfl))
        · rw [hg_u3k (by omega), hg_u3r, if_neg (by decide)]; exact bat
        · rw [hg_u3k (by omega), hg_u3s]; exact congrArg nI (by omega)
        · rw [hg_u3k (by omega), hg_u3r, if_neg (by decide)]; exact bop.trans ((by rw [hg_u3r, if_neg (by decide)] : _ = I1 21 0 19).trans hop)
      · refine hg_eq1 (y := 0) (if_neg bu) ?_
        refine hg_if_eq (tgt := 33) d_M_isE_22 (by decide) (fun h_4 => ?_) (fun h_4 => absurd (by decide) h_4)
        refine hg_iconst (v := 0) d_M_isE_33 (by decide) ?_
        refine hg_ireturn d_M_isE_34 rfl (by decide) ?_
        have hu : (ps_lp n L 124 or F (k + 1) (true, p1, den)) = ((F (p1 + 1)).1, (F (p1 + 1)).2.1, fun f => or (den f) ((F (p1 + 1)).2.2 f)) := (if_pos ⟨rfl, hsg⟩).trans (ps_lp_f (by exact bu) k)
        rw [hu]
        have hlow : ∀ j, j < w + k1 → I2 22 15 j = I1 22 15 j := fun j hj => (blo j hj).trans (hg_u3k (by omega))
        exact ⟨I2, rfl, (if_neg bu).symm, bat, bop.trans ((by rw [hg_u3r, if_neg (by decide)] : _ = I1 21 0 19).trans hop), bfr.tr (hfr1.tr hfr), fun j hj => (hlow j (by omega)).trans (hlo j hj), k1 + bk, by show p + (k1 + bk) ≤ (F (p1 + 1)).2.1; omega, by rw [bcd, Nat.add_assoc], fun z => absurd z bu⟩
    · refine hg_if_eq (tgt := 35) d_M_isE_15 (by decide) (fun h_5 => ?_) (fun h_5 => absurd (by decide) h_5)
      refine hg_iconst (v := 1) d_M_isE_35 (by decide) ?_
      refine hg_ireturn d_M_isE_36 rfl (by decide) ?_
      have hu : (ps_lp n L 124 or F (k + 1) (true, p1, den)) = (true, p1, den) := if_neg (fun z => by rw [hsg] at z; exact absurd z.2 (by decide))
      rw [hu]
      exact ⟨I1, rfl, rfl, hat, hop, hfr, hlo, k1, hk1, hcd, fun _ => hme⟩
theorem m_M_isE {q : Nat} {F : Nat → ps_R} (hX : hg_XS T X) (hR : hg_SR T Rf) (hF : pm_H l E Lg Rf X n L q d Y_M_isT F) (hk : ps_ok n F) (hd : ∃ d2, d = d2 + 5) : pm_H l E Lg Rf X n L q (d + 1) Y_M_isE (fun p => ps_lp n L 124 or F 100 (F p)) := by
  intro p w I hx hp hpn hw hw6 ho
  obtain ⟨o1, o2, o3⟩ := hk p hpn
  have hn100 := hx.2.2.1
  refine hg_mc k_M_isE (Nat.le_of_ble_eq_true rfl) ?_
  show hg_WP l E _ Y_M_isE 0 0 0 [some (.ref (hg_ad E 21 0))] [] (I, Lg, Rf, X) _
  refine hg_aload0 d_M_isE_0 ?_
  refine hg_cVi d_M_isE_1 l_M_195 rfl rfl (hX.lt (n := 1) ⟨by decide, by decide⟩ rfl (by omega)) rfl (Nat.le_of_ble_eq_true rfl) (hF p w _ hx hp hpn hw hw6 ho) rfl ?_
  rintro _ _ ⟨I2, rfl, rfl, bat, bop, bfr, blo, bk, bpk, bcd, bme⟩
  by_cases bu : (F p).1 = true
  · refine hg_eq1 (y := 1) (if_pos bu) ?_
    refine hg_if_ne (tgt := 9) d_M_isE_4 (by decide) (fun h_1 => ?_) (fun h_1 => absurd (by decide) h_1)
    show hg_WP l E _ Y_M_isE 0 0 9 [some (.ref (hg_ad E 21 0))] [] (I2, Lg, Rf, X) (hg_i (fun v M' => ∃ I' : Nat → Nat → Nat → Int32, M' = (I', Lg, Rf, X) ∧ pm_P w p (ps_lp n L 124 or F 100 (F p)) I I' v))
    have o4 := o3 bu
    rw [show F p = (true, (F p).2.1, (F p).2.2) from by rw [← bu]]
    exact m_M_isE_loop hX hR hF hk hd hx ho hw6 100 (F p).2.1 bk (F p).2.2 I2 (by omega) bpk o2 bat bcd bop bfr blo (bme bu)
  · refine hg_eq1 (y := 0) (if_neg bu) ?_
    refine hg_if_ne (tgt := 9) d_M_isE_4 (by decide) (fun h_2 => absurd h_2 (by decide)) (fun h_2 => ?_)
    refine hg_iconst (v := 0) d_M_isE_7 (by decide) ?_
    refine hg_ireturn d_M_isE_8 rfl (by decide) ?_
    show ∃ I' : Nat → Nat → Nat → Int32, (I2, Lg, Rf, X) = (I', Lg, Rf, X) ∧ pm_P w p (ps_lp n L 124 or F 100 (F p)) I I' 0
    rw [ps_lp_f bu 100]
    exact ⟨I2, rfl, (if_neg bu).symm, bat, bop, bfr, blo, bk, bpk, bcd, bme⟩
theorem m_M_isF0 (hX : hg_XS T X) (hR : hg_SR T Rf) : pm_H l E Lg Rf X n L 4 (d + 6) Y_M_isF (ps_F n L 0) := by
  intro p w I hx hp hpn hw hw6 ho
  have hn100 := hx.2.2.1
  refine hg_mc k_M_isF (Nat.le_of_ble_eq_true rfl) ?_
  show hg_WP l E _ Y_M_isF 0 0 0 [some (.ref (hg_ad E 21 0)), none] [] (I, Lg, Rf, X) _
  refine hg_aload0 d_M_isF_0 ?_
  refine hg_bipush (v := 33) d_M_isF_1 (by decide) ?_
  refine hg_cVi d_M_isF_3 l_M_183 rfl rfl (hX.lt (n := 1) ⟨by decide, by decide⟩ rfl (by omega)) rfl (Nat.le_of_ble_eq_true rfl) (m_M_isOpened (n := n) (L := L) (p := p) (q := 4) (c := 33) hX hR hx hp hpn ho (by omega)) rfl ?_
  rintro _ _ (⟨hq4, hs33, rfl, rfl⟩ | ⟨hs33o, rfl, rfl⟩)
  · exact absurd rfl hq4
  · refine hg_if_eq (tgt := 33) d_M_isF_6 (by decide) (fun h_1 => ?_) (fun h_1 => absurd (by decide) h_1)
    refine hg_aload0 d_M_isF_33 ?_
    refine hg_bipush (v := 40) d_M_isF_34 (by decide) ?_
    refine hg_cVi d_M_isF_36 l_M_183 rfl rfl (hX.lt (n := 1) ⟨by decide, by decide⟩ rfl (by omega)) rfl (Nat.le_of_ble_eq_true rfl) (m_M_isOpened (n := n) (L := L) (p := p) (q := 4) (c := 40) hX hR hx hp hpn ho (by omega)) rfl ?_
    rintro _ _ (⟨hq4, hs40, rfl, rfl⟩ | ⟨hs40o, rfl, rfl⟩)
    · exact absurd rfl hq4
    · refine hg_if_eq (tgt := 67) d_M_isF_39 (by decide) (fun h_2 => ?_) (fun h_2 => absurd (by decide) h_2)
      refine hg_aload0 d_M_isF_67 ?_
      refine hg_cVi d_M_isF_68 l_M_192 rfl rfl (hX.lt (n := 1) ⟨by decide, by decide⟩ rfl (by omega)) rfl (Nat.le_of_ble_eq_true rfl) (m_M_isTest (n := n) (L := L) (p := p) (w := w) hX hR hx hp hpn hw hw6) rfl ?_
      rintro v _ ⟨I2, rfl, hPT⟩
      refine hg_ireturn d_M_isF_71 rfl (by rw [hPT.1]; split <;> rfl) ?_
      exact ⟨I2, rfl, hPT⟩
theorem m_M_isF1 {q r : Nat} (hX : hg_XS T X) (hR : hg_SR T Rf) (hq : q < 4) (hF : pm_H l E Lg Rf X n L (q + 1) (d + 8) Y_M_isF (ps_F n L r)) (hE : pm_H l E Lg Rf X n L (q + 1) (d + 8) Y_M_isE (ps_E n L (ps_F n L r))) : pm_H l E Lg Rf X n L q (d + 9) Y_M_isF (ps_F n L (r + 1)) := by
  intro p w I hx hp hpn hw hw6 ho
  have hn100 := hx.2.2.1
  refine hg_mc k_M_isF (Nat.le_of_ble_eq_true rfl) ?_
  show hg_WP l E _ Y_M_isF 0 0 0 [some (.ref (hg_ad E 21 0)), none] [] (I, Lg, Rf, X) _
  refine hg_aload0 d_M_isF_0 ?_
  refine hg_bipush (v := 33) d_M_isF_1 (by decide) ?_
  refine hg_cVi d_M_isF_3 l_M_183 rfl rfl (hX.lt (n := 1) ⟨by decide, by decide⟩ rfl (by omega)) rfl (Nat.le_of_ble_eq_true rfl) (m_M_isOpened (n := n) (L := L) (p := p) (q := q) (c := 33) hX hR hx hp hpn ho (by omega)) rfl ?_
  rintro _ _ (⟨hq4, hs33, rfl, rfl⟩ | ⟨hs33o, rfl, rfl⟩)
  · have hlt := (ps_sg_t hs33).1
    have hfr1 : hm_p (hg_u3 (hg_u3 I 21 0 16 (nI (p + 1))) 21 0 19 (nI (q + 1))) I := (hm_p.rf.u21 (Or.inl (by omega))).u21 (Or.inl (by omega))
    have hx1 := hx.k hfr1
    refine hg_if_eq (tgt := 33) d_M_isF_6 (by decide) (fun h_1 => absurd h_1 (by decide)) (fun h_1 => ?_)
    refine hg_aload0 d_M_isF_9 ?_
    refine hg_cVi d_M_isF_10 l_M_186 rfl rfl (hX.lt (n := 1) ⟨by decide, by decide⟩ rfl (by omega)) rfl (Nat.le_of_ble_eq_true rfl) (hF (p + 1) w _ hx1 (by rw [hg_u3r, if_neg (by decide), hg_u3s]) (by omega) (by rw [hg_u3r, if_neg (by decide), hg_u3r, if_neg (by decide)]; exact hw) (by omega) (by rw [hg_u3s])) rfl ?_
    rintro _ _ ⟨I2, rfl, rfl, bat, bop, bfr, blo, bk, bpk, bcd, bme⟩
    by_cases bu : (ps_F n L r (p + 1)).1 = true
    · refine hg_eq1 (y := 1) (if_pos bu) ?_
      refine hg_if_eq (tgt := 28) d_M_isF_13 (by decide) (fun h_2 => absurd h_2 (by decide)) (fun h_2 => ?_)
      refine hg_aload0 d_M_isF_16 ?_
      refine hg_iconst (v := 0) d_M_isF_17 (by decide) ?_
      refine hg_cVi d_M_isF_18 l_M_177 rfl rfl (hX.lt (n := 1) ⟨by decide, by decide⟩ rfl (by omega)) rfl (Nat.le_of_ble_eq_true rfl) (m_M_codes (w := w + bk) hX hR bcd (by have := (ps_F_ok n L r (p + 1) (by omega)).2.1; omega)) rfl ?_
      rintro _ _ ⟨rfl, rfl⟩
      refine hg_if_eq (tgt := 28) d_M_isF_21 (by decide) (fun h_3 => absurd h_3 (by decide)) (fun h_3 => ?_)
      refine hg_iconst (v := 1) d_M_isF_24 (by decide) ?_
      refine hg_goto (tgt := 29) d_M_isF_25 (by decide) ?_
      refine hg_istore1 d_M_isF_29 rfl ?_
      refine hg_goto (tgt := 72) d_M_isF_30 (by decide) ?_
      refine hg_aload0 d_M_isF_72 ?_
      refine hg_dup d_M_isF_73 rfl ?_
      refine hg_getI d_M_isF_74 f_M_180 rfl rfl (hX.lt (n := 1) ⟨by decide, by decide⟩ rfl (by omega)) ?_
      refine hg_eq1 (y := I2 21 0 19) (by simp [hg_u3]) ?_
      refine hg_eq1 (y := nI (q + 1)) (bop.trans (by rw [hg_u3s])) ?_
      refine hg_iconst (v := 1) d_M_isF_77 (by decide) ?_
      refine hg_isub d_M_isF_78 ?_
      refine hg_eq1 (y := nI q) (nI_pred q) ?_
      refine hg_putI d_M_isF_79 f_M_180 rfl rfl (Or.inl rfl) rfl rfl (hX.lt (n := 1) ⟨by decide, by decide⟩ rfl (by omega)) ?_
      refine hg_iload1 d_M_isF_82 ?_
      refine hg_ireturn d_M_isF_83 rfl (by decide) ?_
      have hu : ps_F n L (r + 1) p = ((ps_F n L r (p + 1)).1, (ps_F n L r (p + 1)).2.1, fun f => !(ps_F n L r (p + 1)).2.2 f) := if_pos hs33
      rw [hu]
      have hop0 : (hg_u3 (hg_u3 (hg_u3 I2 21 0 28 (nI (w + bk + 1))) 22 15 (w + bk) 0) 21 0 19 (nI q)) 21 0 19 = I 21 0 19 := by rw [hg_u3s]; exact ho.symm
      have hlow : ∀ j, j < w → (hg_u3 (hg_u3 (hg_u3 I2 21 0 28 (nI (w + bk + 1))) 22 15 (w + bk) 0) 21 0 19 (nI q)) 22 15 j = I 22 15 j := fun j hj => by rw [show (hg_u3 (hg_u3 (hg_u3 I2 21 0 28 (nI (w + bk + 1))) 22 15 (w + bk) 0) 21 0 19 (nI q)) 22 15 j = I2 22 15 j from by (repeat (first | rw [hg_u3k (by omega)] | rw [hg_u3r, if_neg (by omega)])), blo j hj, hg_u3k (by omega), hg_u3k (by omega)]
      have hcel : ∀ j, j ≠ w + bk → (hg_u3 (hg_u3 (hg_u3 I2 21 0 28 (nI (w + bk + 1))) 22 15 (w + bk) 0) 21 0 19 (nI q)) 22 15 j = I2 22 15 j := fun j hj => by rw [hg_u3k (by omega), hg_u3r, if_neg hj, hg_u3k (by omega)]
      exact ⟨_, rfl, (if_pos bu).symm, by rw [hg_u3r, if_neg (by decide), hg_u3k (by omega), hg_u3r, if_neg (by decide)]; exact bat, hop0, (((bfr.u21 (Or.inr rfl)).u22).u21 (Or.inl (by omega))).tr hfr1, hlow, bk + 1, by show p + (bk + 1) ≤ (ps_F n L r (p + 1)).2.1; omega, by rw [hg_u3r, if_neg (by decide), hg_u3k (by omega), hg_u3s]; exact congrArg nI (by omega), fun _ => ((bme bu).cg (fun j h1 h2 => hcel j (by omega))).not (by rw [hg_u3k (by omega), hg_u3s])⟩
    · refine hg_eq1 (y := 0) (if_neg bu) ?_
      refine hg_if_eq (tgt := 28) d_M_isF_13 (by decide) (fun h_4 => ?_) (fun h_4 => absurd (by decide) h_4)
      refine hg_iconst (v := 0) d_M_isF_28 (by decide) ?_
      refine hg_istore1 d_M_isF_29 rfl ?_
      refine hg_goto (tgt := 72) d_M_isF_30 (by decide) ?_
      refine hg_aload0 d_M_isF_72 ?_
      refine hg_dup d_M_isF_73 rfl ?_
      refine hg_getI d_M_isF_74 f_M_180 rfl rfl (hX.lt (n := 1) ⟨by decide, by decide⟩ rfl (by omega)) ?_
      refine hg_eq1 (y := nI (q + 1)) (bop.trans (by rw [hg_u3s])) ?_
      refine hg_iconst (v := 1) d_M_isF_77 (by decide) ?_
      refine hg_isub d_M_isF_78 ?_
      refine hg_eq1 (y := nI q) (nI_pred q) ?_
      refine hg_putI d_M_isF_79 f_M_180 rfl rfl (Or.inl rfl) rfl rfl (hX.lt (n := 1) ⟨by decide, by decide⟩ rfl (by omega)) ?_
      refine hg_iload1 d_M_isF_82 ?_
      refine hg_ireturn d_M_isF_83 rfl (by decide) ?_
      have hu : ps_F n L (r + 1) p = ((ps_F n L r (p + 1)).1, (ps_F n L r (p + 1)).2.1, fun f => !(ps_F n L r (p + 1)).2.2 f) := if_pos hs33
      rw [hu]
      have hop0 : (hg_u3 I2 21 0 19 (nI q)) 21 0 19 = I 21 0 19 := by rw [hg_u3s]; exact ho.symm
      have hlow : ∀ j, j < w → (hg_u3 I2 21 0 19 (nI q)) 22 15 j = I 22 15 j := fun j hj => by rw [show (hg_u3 I2 21 0 19 (nI q)) 22 15 j = I2 22 15 j from by (repeat (first | rw [hg_u3k (by omega)] | rw [hg_u3r, if_neg (by omega)])), blo j hj, hg_u3k (by omega), hg_u3k (by omega)]
      exact ⟨_, rfl, (if_neg bu).symm, by rw [hg_u3r, if_neg (by decide)]; exact bat, hop0, (bfr.u21 (Or.inl (by omega))).tr hfr1, hlow, bk, by show p + bk ≤ (ps_F n L r (p + 1)).2.1; omega, by rw [hg_u3r, if_neg (by decide)]; exact bcd, fun z => absurd z bu⟩
  · have hs33 : ¬ ps_sg n L p 33 = true := hs33o.elim (fun z => absurd z (by omega)) (fun z => by rw [z]; decide)
    refine hg_if_eq (tgt := 33) d_M_isF_6 (by decide) (fun h_5 => ?_) (fun h_5 => absurd (by decide) h_5)
    refine hg_aload0 d_M_isF_33 ?_
    refine hg_bipush (v := 40) d_M_isF_34 (by decide) ?_
    refine hg_cVi d_M_isF_36 l_M_183 rfl rfl (hX.lt (n := 1) ⟨by decide, by decide⟩ rfl (by omega)) rfl (Nat.le_of_ble_eq_true rfl) (m_M_isOpened (n := n) (L := L) (p := p) (q := q) (c := 40) hX hR hx hp hpn ho (by omega)) rfl ?_
    rintro _ _ (⟨hq4, hs40, rfl, rfl⟩ | ⟨hs40o, rfl, rfl⟩)
    · have hlt := (ps_sg_t hs40).1
      have hfr1 : hm_p (hg_u3 (hg_u3 I 21 0 16 (nI (p + 1))) 21 0 19 (nI (q + 1))) I := (hm_p.rf.u21 (Or.inl (by omega))).u21 (Or.inl (by omega))
      have hx1 := hx.k hfr1
      refine hg_if_eq (tgt := 67) d_M_isF_39 (by decide) (fun h_6 => absurd h_6 (by decide)) (fun h_6 => ?_)
      refine hg_aload0 d_M_isF_42 ?_
      refine hg_cVi d_M_isF_43 l_M_189 rfl rfl (hX.lt (n := 1) ⟨by decide, by decide⟩ rfl (by omega)) rfl (Nat.le_of_ble_eq_true rfl) (hE (p + 1) w _ hx1 (by rw [hg_u3r, if_neg (by decide), hg_u3s]) (by omega) (by rw [hg_u3r, if_neg (by decide), hg_u3r, if_neg (by decide)]; exact hw) (by omega) (by rw [hg_u3s])) rfl ?_
      rintro _ _ ⟨I2, rfl, rfl, bat, bop, bfr, blo, bk, bpk, bcd, bme⟩
      by_cases bu : (ps_E n L (ps_F n L r) (p + 1)).1 = true
      · refine hg_eq1 (y := 1) (if_pos bu) ?_
        refine hg_if_eq (tgt := 62) d_M_isF_46 (by decide) (fun h_7 => absurd h_7 (by decide)) (fun h_7 => ?_)
        refine hg_aload0 d_M_isF_49 ?_
        refine hg_bipush (v := 41) d_M_isF_50 (by decide) ?_
        refine hg_cVi d_M_isF_52 l_M_161 rfl rfl (hX.lt (n := 1) ⟨by decide, by decide⟩ rfl (by omega)) rfl (Nat.le_of_ble_eq_true rfl) (m_M_is (n := n) (L := L) (p := (ps_E n L (ps_F n L r) (p + 1)).2.1) (c := 41) hX hR (hx1.k bfr) bat (ps_E_ok (ps_F_ok n L r) (p + 1) (by omega)).2.1) rfl ?_
        rintro _ _ (⟨hsp, rfl, rfl⟩ | ⟨hsp, rfl, rfl⟩)
        · refine hg_if_eq (tgt := 62) d_M_isF_55 (by decide) (fun h_8 => absurd h_8 (by decide)) (fun h_8 => ?_)
          refine hg_iconst (v := 1) d_M_isF_58 (by decide) ?_
          refine hg_goto (tgt := 63) d_M_isF_59 (by decide) ?_
          refine hg_istore1 d_M_isF_63 rfl ?_
          refine hg_goto (tgt := 72) d_M_isF_64 (by decide) ?_
          refine hg_aload0 d_M_isF_72 ?_
          refine hg_dup d_M_isF_73 rfl ?_
          refine hg_getI d_M_isF_74 f_M_180 rfl rfl (hX.lt (n := 1) ⟨by decide, by decide⟩ rfl (by omega)) ?_
          refine hg_eq1 (y := I2 21 0 19) (by simp [hg_u3]) ?_
          refine hg_eq1 (y := nI (q + 1)) (bop.trans (by rw [hg_u3s])) ?_
          refine hg_iconst (v := 1) d_M_isF_77 (by decide) ?_
          refine hg_isub d_M_isF_78 ?_
          refine hg_eq1 (y := nI q) (nI_pred q) ?_
          refine hg_putI d_M_isF_79 f_M_180 rfl rfl (Or.inl rfl) rfl rfl (hX.lt (n := 1) ⟨by decide, by decide⟩ rfl (by omega)) ?_
          refine hg_iload1 d_M_isF_82 ?_
          refine hg_ireturn d_M_isF_83 rfl (by decide) ?_
          have hu0 : ps_F n L (r + 1) p = (if (ps_E n L (ps_F n L r) (p + 1)).1 = true ∧ ps_sg n L (ps_E n L (ps_F n L r) (p + 1)).2.1 41 = true then (true, (ps_E n L (ps_F n L r) (p + 1)).2.1 + 1, (ps_E n L (ps_F n L r) (p + 1)).2.2) else (false, (ps_E n L (ps_F n L r) (p + 1)).2.1, (ps_E n L (ps_F n L r) (p + 1)).2.2)) := (if_neg hs33).trans (if_pos hs40)
          rw [hu0, if_pos ⟨bu, hsp⟩]
          have hop0 : (hg_u3 (hg_u3 I2 21 0 16 (nI ((ps_E n L (ps_F n L r) (p + 1)).2.1 + 1))) 21 0 19 (nI q)) 21 0 19 = I 21 0 19 := by rw [hg_u3s]; exact ho.symm
          have hlow : ∀ j, j < w → (hg_u3 (hg_u3 I2 21 0 16 (nI ((ps_E n L (ps_F n L r) (p + 1)).2.1 + 1))) 21 0 19 (nI q)) 22 15 j = I 22 15 j := fun j hj => by rw [show (hg_u3 (hg_u3 I2 21 0 16 (nI ((ps_E n L (ps_F n L r) (p + 1)).2.1 + 1))) 21 0 19 (nI q)) 22 15 j = I2 22 15 j from by (repeat (first | rw [hg_u3k (by omega)] | rw [hg_u3r, if_neg (by omega)])), blo j hj, hg_u3k (by omega), hg_u3k (by omega)]
          have hcel : ∀ j, (hg_u3 (hg_u3 I2 21 0 16 (nI ((ps_E n L (ps_F n L r) (p + 1)).2.1 + 1))) 21 0 19 (nI q)) 22 15 j = I2 22 15 j := fun j => by rw [hg_u3k (by omega), hg_u3k (by omega)]
          exact ⟨_, rfl, rfl, by rw [hg_u3r, if_neg (by decide), hg_u3s], hop0, ((bfr.u21 (Or.inl (by omega))).u21 (Or.inl (by omega))).tr hfr1, hlow, bk, by show p + bk ≤ (ps_E n L (ps_F n L r) (p + 1)).2.1 + 1; omega, by rw [hg_u3r, if_neg (by decide), hg_u3r, if_neg (by decide)]; exact bcd, fun _ => (bme bu).cg (fun j h1 h2 => hcel j)⟩
        · refine hg_if_eq (tgt := 62) d_M_isF_55 (by decide) (fun h_9 => ?_) (fun h_9 => absurd (by decide) h_9)
          refine hg_iconst (v := 0) d_M_isF_62 (by decide) ?_
          refine hg_istore1 d_M_isF_63 rfl ?_
          refine hg_goto (tgt := 72) d_M_isF_64 (by decide) ?_
          refine hg_aload0 d_M_isF_72 ?_
          refine hg_dup d_M_isF_73 rfl ?_
          refine hg_getI d_M_isF_74 f_M_180 rfl rfl (hX.lt (n := 1) ⟨by decide, by decide⟩ rfl (by omega)) ?_
          refine hg_eq1 (y := nI (q + 1)) (bop.trans (by rw [hg_u3s])) ?_
          refine hg_iconst (v := 1) d_M_isF_77 (by decide) ?_
          refine hg_isub d_M_isF_78 ?_
          refine hg_eq1 (y := nI q) (nI_pred q) ?_
          refine hg_putI d_M_isF_79 f_M_180 rfl rfl (Or.inl rfl) rfl rfl (hX.lt (n := 1) ⟨by decide, by decide⟩ rfl (by omega)) ?_
          refine hg_iload1 d_M_isF_82 ?_
          refine hg_ireturn d_M_isF_83 rfl (by decide) ?_
          have hu0 : ps_F n L (r + 1) p = (if (ps_E n L (ps_F n L r) (p + 1)).1 = true ∧ ps_sg n L (ps_E n L (ps_F n L r) (p + 1)).2.1 41 = true then (true, (ps_E n L (ps_F n L r) (p + 1)).2.1 + 1, (ps_E n L (ps_F n L r) (p + 1)).2.2) else (false, (ps_E n L (ps_F n L r) (p + 1)).2.1, (ps_E n L (ps_F n L r) (p + 1)).2.2)) := (if_neg hs33).trans (if_pos hs40)
          rw [hu0, if_neg (fun z => by rw [hsp] at z; exact absurd z.2 (by decide))]
          have hop0 : (hg_u3 I2 21 0 19 (nI q)) 21 0 19 = I 21 0 19 := by rw [hg_u3s]; exact ho.symm
          have hlow : ∀ j, j < w → (hg_u3 I2 21 0 19 (nI q)) 22 15 j = I 22 15 j := fun j hj => by rw [show (hg_u3 I2 21 0 19 (nI q)) 22 15 j = I2 22 15 j from by (repeat (first | rw [hg_u3k (by omega)] | rw [hg_u3r, if_neg (by omega)])), blo j hj, hg_u3k (by omega), hg_u3k (by omega)]
          exact ⟨_, rfl, rfl, by rw [hg_u3r, if_neg (by decide)]; exact bat, hop0, (bfr.u21 (Or.inl (by omega))).tr hfr1, hlow, bk, by show p + bk ≤ (ps_E n L (ps_F n L r) (p + 1)).2.1; omega, by rw [hg_u3r, if_neg (by decide)]; exact bcd, fun z => absurd (show false = true from z) (by decide)⟩
      · refine hg_eq1 (y := 0) (if_neg bu) ?_
        refine hg_if_eq (tgt := 62) d_M_isF_46 (by decide) (fun h_10 => ?_) (fun h_10 => absurd (by decide) h_10)
        refine hg_iconst (v := 0) d_M_isF_62 (by decide) ?_
        refine hg_istore1 d_M_isF_63 rfl ?_
        refine hg_goto (tgt := 72) d_M_isF_64 (by decide) ?_
        refine hg_aload0 d_M_isF_72 ?_
        refine hg_dup d_M_isF_73 rfl ?_
        refine hg_getI d_M_isF_74 f_M_180 rfl rfl (hX.lt (n := 1) ⟨by decide, by decide⟩ rfl (by omega)) ?_
        refine hg_eq1 (y := nI (q + 1)) (bop.trans (by rw [hg_u3s])) ?_
        refine hg_iconst (v := 1) d_M_isF_77 (by decide) ?_
        refine hg_isub d_M_isF_78 ?_
        refine hg_eq1 (y := nI q) (nI_pred q) ?_
        refine hg_putI d_M_isF_79 f_M_180 rfl rfl (Or.inl rfl) rfl rfl (hX.lt (n := 1) ⟨by decide, by decide⟩ rfl (by omega)) ?_
        refine hg_iload1 d_M_isF_82 ?_
        refine hg_ireturn d_M_isF_83 rfl (by decide) ?_
        have hu0 : ps_F n L (r + 1) p = (if (ps_E n L (ps_F n L r) (p + 1)).1 = true ∧ ps_sg n L (ps_E n L (ps_F n L r) (p + 1)).2.1 41 = true then (true, (ps_E n L (ps_F n L r) (p + 1)).2.1 + 1, (ps_E n L (ps_F n L r) (p + 1)).2.2) else (false, (ps_E n L (ps_F n L r) (p + 1)).2.1, (ps_E n L (ps_F n L r) (p + 1)).2.2)) := (if_neg hs33).trans (if_pos hs40)
        rw [hu0, if_neg (fun z => bu z.1)]
        have hop0 : (hg_u3 I2 21 0 19 (nI q)) 21 0 19 = I 21 0 19 := by rw [hg_u3s]; exact ho.symm
        have hlow : ∀ j, j < w → (hg_u3 I2 21 0 19 (nI q)) 22 15 j = I 22 15 j := fun j hj => by rw [show (hg_u3 I2 21 0 19 (nI q)) 22 15 j = I2 22 15 j from by (repeat (first | rw [hg_u3k (by omega)] | rw [hg_u3r, if_neg (by omega)])), blo j hj, hg_u3k (by omega), hg_u3k (by omega)]
        exact ⟨_, rfl, rfl, by rw [hg_u3r, if_neg (by decide)]; exact bat, hop0, (bfr.u21 (Or.inl (by omega))).tr hfr1, hlow, bk, by show p + bk ≤ (ps_E n L (ps_F n L r) (p + 1)).2.1; omega, by rw [hg_u3r, if_neg (by decide)]; exact bcd, fun z => absurd (show false = true from z) (by decide)⟩
    · have hs40 : ¬ ps_sg n L p 40 = true := hs40o.elim (fun z => absurd z (by omega)) (fun z => by rw [z]; decide)
      refine hg_if_eq (tgt := 67) d_M_isF_39 (by decide) (fun h_11 => ?_) (fun h_11 => absurd (by decide) h_11)
      refine hg_aload0 d_M_isF_67 ?_
      refine hg_cVi d_M_isF_68 l_M_192 rfl rfl (hX.lt (n := 1) ⟨by decide, by decide⟩ rfl (by omega)) rfl (Nat.le_of_ble_eq_true rfl) (m_M_isTest (n := n) (L := L) (p := p) (w := w) hX hR hx hp hpn hw hw6) rfl ?_
      rintro v _ ⟨I2, rfl, hPT⟩
      refine hg_ireturn d_M_isF_71 rfl (by rw [hPT.1]; split <;> rfl) ?_
      rw [show ps_F n L (r + 1) p = ps_test n L p from by show (if ps_sg n L p 33 = true then _ else (if ps_sg n L p 40 = true then _ else _)) = _; rw [if_neg hs33, if_neg hs40]]
      exact ⟨I2, rfl, hPT⟩
theorem m_M_isF (hX : hg_XS T X) (hR : hg_SR T Rf) : ∀ (r q e : Nat), r + q = 4 → 3 * r ≤ e → pm_H l E Lg Rf X n L q (e + 6) Y_M_isF (ps_F n L r) := by
  intro r
  induction r with
  | zero =>
    intro q e hq he
    obtain rfl : q = 4 := by omega
    exact m_M_isF0 hX hR
  | succ r ih =>
    intro q e hq he
    obtain ⟨e2, rfl⟩ : ∃ e2, e = e2 + 3 := ⟨e - 3, by omega⟩
    have hF := ih (q + 1) (e2 + 2) (by omega) (by omega)
    have hF2 := ih (q + 1) e2 (by omega) (by omega)
    have hT := m_M_isT hX hR hF2 (ps_F_ok n L r) ⟨e2 + 1, rfl⟩
    have hE := m_M_isE hX hR hT (ps_T_ok (ps_F_ok n L r)) ⟨e2 + 2, rfl⟩
    exact m_M_isF1 hX hR (by omega) hF hE
theorem m_M_isE4 (hX : hg_XS T X) (hR : hg_SR T Rf) : pm_H l E Lg Rf X n L 0 (d + 20) Y_M_isE (ps_E n L (ps_F n L 4)) := by
  have hF := m_M_isF (l := l) (E := E) (Lg := Lg) (n := n) (L := L) hX hR 4 0 (d + 12) rfl (by omega)
  have hT := m_M_isT hX hR hF (ps_F_ok n L 4) ⟨d + 13, rfl⟩
  exact m_M_isE hX hR hT (ps_T_ok (ps_F_ok n L 4)) ⟨d + 14, rfl⟩
end M48
