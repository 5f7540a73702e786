/-! Reader: F, T, E -/
def ps_K (l : Launch) (E : hg_E) (T n : Nat) (L : Nat → Int32) (Y : hg_Y) (m : Nat) (dp : Int32) (b : Nat) (F : Nat → ps_R) : Prop := ∀ (D : Nat) (I : Nat → Nat → Nat → Int32) (Lg : Nat → Nat → Nat → Int64) (Rf : Nat → Nat → Nat → Option (Nat × Nat)) (X : Nat × (Nat → Nat) × (Nat → Nat → Nat)) (p w : Nat), m ≤ D → hg_XS T X → hg_SR T Rf → ps_X n L I → I 10 0 2 = nI p → p ≤ n → I 10 0 4 = nI w → w ≤ p → hg_MC l E D Y 0 0 [.ref (hg_ad E 10 0), .int dp] (I, Lg, Rf, X) (hg_i (fun v M' => ∃ I' : Nat → Nat → Nat → Int32, M' = (I', Lg, Rf, X) ∧ ps_P b w p (F p) I I' v))
section M19
variable {l : Launch} {E : hg_E} {d T : Nat}
variable {I : Nat → Nat → Nat → Int32} {Lg : Nat → Nat → Nat → Int64} {Rf : Nat → Nat → Nat → Option (Nat × Nat)} {X : Nat × (Nat → Nat) × (Nat → Nat → Nat)}
variable {n : Nat} {L : Nat → Int32} {I1 I2 I' : Nat → Nat → Nat → Int32}
theorem ps_P.le {b b' w p : Nat} {q : ps_R} {v : Int32} (h : ps_P b w p q I I' v) (hb : b ≤ b') : ps_P b' w p q I I' v := by
  obtain ⟨h1, h2, h3, h4, h5, w', h6, h7, h8, h9⟩ := h
  exact ⟨h1, h2, h3, h4, h5, w', h6, h7, h8, fun z => ⟨(h9 z).1, (h9 z).2.le hb⟩⟩
theorem ps_lp_no {c : Int32} {op : Bool → Bool → Bool} {F : Nat → ps_R} {q : ps_R} (h : ¬ (q.1 = true ∧ ps_sg n L q.2.1 c = true)) : ∀ k, ps_lp n L c op F k q = q
  | 0 => rfl
  | k + 1 => by unfold ps_lp; rw [if_neg h]
/-- one more operand, and what joins it -/
theorem ps_P.join {b w p w' : Nat} {q q2 : ps_R} {v3 c : Int32} {op : Bool → Bool → Bool} {I1 I3 I4 : Nat → Nat → Nat → Int32} (hop : (c = 5 ∧ op = or) ∨ (c = 4 ∧ op = and)) (hn : n ≤ 100) (hpq : p ≤ q.2.1) (hwp : w ≤ p) (h2n : q2.2.1 ≤ n) (h2p : q.2.1 + 1 ≤ q2.2.1)
    (hI1 : hg_fd I1 I) (h61 : I1 10 0 6 = I 10 0 6) (hpr : ∀ j, j < w → I1 12 0 j = I 12 0 j) (hww : w ≤ w') (hw1 : w' - w ≤ q.2.1 - p) (hev : ps_ev (I1 12 0) w (w' - w) (b + 1) q.2.2)
    (hP : ps_P b w' (q.2.1 + 1) q2 (hg_u3 I1 10 0 2 (nI (q.2.1 + 1))) I3 v3) {w3 : Nat} (hw3 : I3 10 0 4 = nI w3) (hw3b : w3 ≤ 100) (hI4 : (w3 = 100 ∧ I4 = I3) ∨ (w3 < 100 ∧ I4 = hg_u3 (hg_u3 I3 12 0 w3 c) 10 0 4 (nI (w3 + 1)))) : ps_P (b + 1) w p (q2.1, q2.2.1, fun f => op (q.2.2 f) (q2.2.2 f)) I I4 v3 := by
  obtain ⟨g1, g2, g3, g4, g5, w4, g6, g7, g8, g9⟩ := hP
  obtain rfl : w3 = w4 := (nI_eq (by omega) (by omega)).mp (hw3.symm.trans g8)
  have hf3 : hg_fd I3 I := g3.tr (hI1.u (by decide))
  have h63 : I3 10 0 6 = I 10 0 6 := g4.trans ((by simp [hg_u3] : hg_u3 I1 10 0 2 (nI (q.2.1 + 1)) 10 0 6 = I1 10 0 6).trans h61)
  have hpr3 : ∀ j, j < w → I3 12 0 j = I 12 0 j := fun j hj => (g5 j (by omega)).trans ((by simp [hg_u3] : hg_u3 I1 10 0 2 (nI (q.2.1 + 1)) 12 0 j = I1 12 0 j).trans (hpr j hj))
  rcases hI4 with ⟨e, rfl⟩ | ⟨e, rfl⟩
  · exact ⟨g1, g2, hf3, h63, hpr3, w3, by omega, g7, g8, fun z => absurd (g9 z).1 (by omega)⟩
  · refine ⟨g1, by rw [← g2]; simp [hg_u3], (hf3.v).u (by decide), by rw [← h63]; simp [hg_u3], fun j hj => ?_, w3 + 1, by omega, by omega, by simp [hg_u3], fun z => ?_⟩
    · rw [← hpr3 j hj]; simp [hg_u3]; omega
    · obtain ⟨a1, a2⟩ := g9 z
      refine ⟨by show w3 + 1 - w ≤ q2.2.1 - p; omega, ?_⟩
      have hc1 : ∀ j, j < w3 → hg_u3 (hg_u3 I3 12 0 w3 c) 10 0 4 (nI (w3 + 1)) 12 0 j = I3 12 0 j := fun j hj => by simp [hg_u3]; omega
      have k1 : ps_ev (hg_u3 (hg_u3 I3 12 0 w3 c) 10 0 4 (nI (w3 + 1)) 12 0) w (w' - w) (b + 1) q.2.2 := hev.cg (fun j h1 h2 => (hc1 j (by omega)).trans ((g5 j (by omega)).trans (by simp [hg_u3])))
      have k2 : ps_ev (hg_u3 (hg_u3 I3 12 0 w3 c) 10 0 4 (nI (w3 + 1)) 12 0) (w + (w' - w)) (w3 - w') b q2.2.2 := by
        rw [show w + (w' - w) = w' by omega]
        exact a2.cg (fun j h1 h2 => hc1 j (by omega))
      have := k1.bin hop k2 (by rw [show w + (w' - w) + (w3 - w') = w3 by omega]; simp [hg_u3])
      rwa [show w' - w + (w3 - w') + 1 = w3 + 1 - w by omega] at this

theorem m_R_both_loop {F : Nat → ps_R} {m b p w : Nat} {dp : Int32} (hF : ps_K l E T n L Y_R_factor m dp b F) (hFo : ps_ok n F) (hD : m ≤ d + 4) (hX : hg_XS T X) (hR : hg_SR T Rf) (hx : ps_X n L I) (hp : I 10 0 2 = nI p) (hpn : p ≤ n) (hw : I 10 0 4 = nI w) (hwp : w ≤ p) (fin : ps_R) : ∀ (k i : Nat) (q : ps_R) (I1 : Nat → Nat → Nat → Int32) (v : Int32), i + k = 100 → p ≤ q.2.1 → q.2.1 ≤ n → ps_P (b + 1) w p q I I1 v → ps_lp n L 38 and F k q = fin → hg_WP l E (d + 4) Y_R_both 0 0 8 [some (.ref (hg_ad E 10 0)), some (.int dp), some (.int v), some (.int (nI i))] [] (I1, Lg, Rf, X) (hg_i (fun v M' => ∃ I' : Nat → Nat → Nat → Int32, M' = (I', Lg, Rf, X) ∧ ps_P (b + 1) w p fin I I' v)) := by
  have hn100 := hx.2.2.1
  intro k
  induction k with
  | zero =>
    intro i q I1 v hik hq1 hq2 hP he
    obtain rfl : i = 100 := by omega
    obtain rfl : q = fin := he
    refine hg_iload3 d_R_both_8 ?_
    refine hg_bipush (v := 100) d_R_both_9 (by decide) ?_
    refine hg_icmp_ge (tgt := 46) d_R_both_11 (by decide) (fun h_1 => ?_) (fun h_1 => absurd (Int32.le_refl (nI 100)) h_1)
    refine hg_iload2 d_R_both_46 ?_
    refine hg_ireturn d_R_both_47 rfl (by rw [hP.1]; split <;> rfl) ?_
    exact ⟨I1, rfl, hP⟩
  | succ k ih =>
    intro i q I1 v hik hq1 hq2 hP he
    by_cases hq : q.1 = true
    · obtain ⟨g1, g2, g3, g4, g5, w1, g6, g7, g8, g9⟩ := id hP
      rw [if_pos hq] at g1
      subst g1
      have hx1 := hx.fd g3
      refine hg_iload3 d_R_both_8 ?_
      refine hg_bipush (v := 100) d_R_both_9 (by decide) ?_
      refine hg_icmp_ge (tgt := 46) d_R_both_11 (by decide) (fun h_2 => absurd h_2 (nI_ge (b := 100) (by omega) (by decide))) (fun h_2 => ?_)
      refine hg_iload2 d_R_both_14 ?_
      refine hg_if_eq (tgt := 46) d_R_both_15 (by decide) (fun h_3 => absurd h_3 (by decide)) (fun h_3 => ?_)
      refine hg_aload0 d_R_both_18 ?_
      refine hg_bipush (v := 38) d_R_both_19 (by decide) ?_
      refine hg_cVi d_R_both_21 l_R_36 rfl rfl (hX.lt (n := 1) ⟨by decide, by decide⟩ rfl (by omega)) rfl (Nat.le_of_ble_eq_true rfl) (m_R_sign (n := n) (L := L) (p := q.2.1) hX hR hx1 g2 hq2) rfl ?_
      rintro _ _ (hsg | hsg)
      · obtain ⟨hsg, rfl, rfl⟩ := hsg
        refine hg_if_eq (tgt := 46) d_R_both_24 (by decide) (fun h_4 => absurd h_4 (by decide)) (fun h_4 => ?_)
        refine hg_aload0 d_R_both_27 ?_
        refine hg_iload1 d_R_both_28 ?_
        have hlt := (ps_sg_t hsg).1
        obtain ⟨gg1, gg2⟩ := g9 hq
        refine hg_cVi d_R_both_29 l_R_71 rfl rfl (hX.lt (n := 1) ⟨by decide, by decide⟩ rfl (by omega)) rfl (Nat.le_of_ble_eq_true rfl) (hF _ (hg_u3 I1 10 0 2 (nI (q.2.1 + 1))) Lg Rf X (q.2.1 + 1) w1 hD hX hR (hx1.fd (hg_fd.rf.u (by decide))) (by simp [hg_u3]) (by omega) (by simp [hg_u3, g8]) (by omega)) rfl ?_
        rintro v3 _ ⟨I3, rfl, hP3⟩
        obtain ⟨o1, o2, o3⟩ := hFo (q.2.1 + 1) (by omega)
        obtain ⟨w3, hw3a, hw3b⟩ : ∃ w3, I3 10 0 4 = nI w3 ∧ w3 ≤ 100 := by obtain ⟨-, -, -, -, -, w3, -, h7, h8, -⟩ := hP3; exact ⟨w3, h8, h7⟩
        refine hg_istore2 d_R_both_32 rfl ?_
        refine hg_aload0 d_R_both_33 ?_
        refine hg_iconst (v := 0) d_R_both_34 (by decide) ?_
        refine hg_iconst (v := 0) d_R_both_35 (by decide) ?_
        refine hg_iconst (v := 4) d_R_both_36 (by decide) ?_
        refine hg_cVv d_R_both_37 l_R_64 rfl rfl (hX.lt (n := 1) ⟨by decide, by decide⟩ rfl (by omega)) rfl (Nat.le_of_ble_eq_true rfl) (m_R_write (w := w3) hX hR hw3a hw3b) rfl ?_
        rintro M4 hwr
        obtain ⟨I4, rfl, hI4⟩ : ∃ I4, ‹hg_M› = (I4, Lg, Rf, X) ∧ ((w3 = 100 ∧ I4 = I3) ∨ (w3 < 100 ∧ I4 = hg_u3 (hg_u3 I3 12 0 w3 4) 10 0 4 (nI (w3 + 1)))) := by
          rcases hwr with ⟨e, e2⟩ | ⟨e, e2⟩
          · exact ⟨_, e2, Or.inl ⟨e, rfl⟩⟩
          · exact ⟨_, e2, Or.inr ⟨e, rfl⟩⟩
        refine hg_iinc3 (v := nI (i + 1)) d_R_both_40 rfl (nI_add _ _) ?_
        refine hg_goto (tgt := 8) d_R_both_43 (by decide) ?_
        refine ih (i + 1) ((F (q.2.1 + 1)).1, (F (q.2.1 + 1)).2.1, fun f => and (q.2.2 f) ((F (q.2.1 + 1)).2.2 f)) I4 v3 (by omega) (by show p ≤ (F (q.2.1 + 1)).2.1; omega) o2 (ps_P.join (Or.inr ⟨rfl, rfl⟩) hn100 hq1 hwp o2 o1 g3 g4 g5 g6 gg1 gg2 hP3 hw3a hw3b hI4) ?_
        rw [← he]; exact (if_pos ⟨hq, hsg⟩).symm
      · obtain ⟨hsg, rfl, rfl⟩ := hsg
        refine hg_if_eq (tgt := 46) d_R_both_24 (by decide) (fun h_5 => ?_) (fun h_5 => absurd (by decide) h_5)
        refine hg_iload2 d_R_both_46 ?_
        refine hg_ireturn d_R_both_47 rfl (by decide) ?_
        refine ⟨I1, rfl, ?_⟩
        rw [← he, ps_lp_no (fun z => by rw [hsg] at z; exact absurd z.2 (by decide))]; exact hP
    · have g1 := hP.1
      rw [if_neg hq] at g1
      subst g1
      refine hg_iload3 d_R_both_8 ?_
      refine hg_bipush (v := 100) d_R_both_9 (by decide) ?_
      refine hg_icmp_ge (tgt := 46) d_R_both_11 (by decide) (fun h_6 => absurd h_6 (nI_ge (b := 100) (by omega) (by decide))) (fun h_6 => ?_)
      refine hg_iload2 d_R_both_14 ?_
      refine hg_if_eq (tgt := 46) d_R_both_15 (by decide) (fun h_7 => ?_) (fun h_7 => absurd (by decide) h_7)
      refine hg_iload2 d_R_both_46 ?_
      refine hg_ireturn d_R_both_47 rfl (by decide) ?_
      refine ⟨I1, rfl, ?_⟩
      rw [← he, ps_lp_no (fun z => hq z.1)]; exact hP
theorem m_R_both {F : Nat → ps_R} {m b : Nat} {dp : Int32} (hF : ps_K l E T n L Y_R_factor m dp b F) (hFo : ps_ok n F) (hm : 4 ≤ m) : ps_K l E T n L Y_R_both (m + 1) dp (b + 1) (ps_T n L F) := by
  intro D I Lg Rf X p w hD hX hR hx hp hpn hw hwp
  obtain ⟨d, rfl⟩ : ∃ d, D = d + 5 := ⟨D - 5, by omega⟩
  show hg_MC l E (d + 5) Y_R_both 0 0 _ _ (hg_i (fun v M' => ∃ I' : Nat → Nat → Nat → Int32, M' = (I', Lg, Rf, X) ∧ ps_P (b + 1) w p (ps_T n L F p) I I' v))
  refine hg_mc k_R_both (Nat.le_of_ble_eq_true rfl) ?_
  show hg_WP l E (d + 4) Y_R_both 0 0 0 [some (.ref (hg_ad E 10 0)), some (.int dp), none, none] [] (I, Lg, Rf, X) _
  refine hg_aload0 d_R_both_0 ?_
  refine hg_iload1 d_R_both_1 ?_
  refine hg_cVi d_R_both_2 l_R_71 rfl rfl (hX.lt (n := 1) ⟨by decide, by decide⟩ rfl (by omega)) rfl (Nat.le_of_ble_eq_true rfl) (hF _ I Lg Rf X p w (by omega) hX hR hx hp hpn hw hwp) rfl ?_
  rintro v _ ⟨I1, rfl, hP1⟩
  refine hg_istore2 d_R_both_5 rfl ?_
  refine hg_iconst (v := 0) d_R_both_6 (by decide) ?_
  refine hg_istore3 d_R_both_7 rfl ?_
  exact m_R_both_loop hF hFo (by omega) hX hR hx hp hpn hw hwp _ 100 0 (F p) I1 v rfl (hFo p hpn).1 (hFo p hpn).2.1 (hP1.le (Nat.le_succ _)) rfl
def ps_E1 (n : Nat) (L : Nat → Int32) (F : Nat → ps_R) (p : Nat) : ps_R := ps_lp n L 124 or F 100 (F p)
theorem m_R_either_loop {F : Nat → ps_R} {m b p w : Nat} {dp : Int32} (hF : ps_K l E T n L Y_R_both m dp b F) (hFo : ps_ok n F) (hD : m ≤ d + 4) (hX : hg_XS T X) (hR : hg_SR T Rf) (hx : ps_X n L I) (hp : I 10 0 2 = nI p) (hpn : p ≤ n) (hw : I 10 0 4 = nI w) (hwp : w ≤ p) (fin : ps_R) : ∀ (k i : Nat) (q : ps_R) (I1 : Nat → Nat → Nat → Int32) (v : Int32), i + k = 100 → p ≤ q.2.1 → q.2.1 ≤ n → ps_P (b + 1) w p q I I1 v → ps_lp n L 124 or F k q = fin → hg_WP l E (d + 4) Y_R_either 0 0 8 [some (.ref (hg_ad E 10 0)), some (.int dp), some (.int v), some (.int (nI i))] [] (I1, Lg, Rf, X) (hg_i (fun v M' => ∃ I' : Nat → Nat → Nat → Int32, M' = (I', Lg, Rf, X) ∧ ps_P (b + 1) w p fin I I' v)) := by
  have hn100 := hx.2.2.1
  intro k
  induction k with
  | zero =>
    intro i q I1 v hik hq1 hq2 hP he
    obtain rfl : i = 100 := by omega
    obtain rfl : q = fin := he
    refine hg_iload3 d_R_either_8 ?_
    refine hg_bipush (v := 100) d_R_either_9 (by decide) ?_
    refine hg_icmp_ge (tgt := 46) d_R_either_11 (by decide) (fun h_1 => ?_) (fun h_1 => absurd (Int32.le_refl (nI 100)) h_1)
    refine hg_iload2 d_R_either_46 ?_
    refine hg_ireturn d_R_either_47 rfl (by rw [hP.1]; split <;> rfl) ?_
    exact ⟨I1, rfl, hP⟩
  | succ k ih =>
    intro i q I1 v hik hq1 hq2 hP he
    by_cases hq : q.1 = true
    · obtain ⟨g1, g2, g3, g4, g5, w1, g6, g7, g8, g9⟩ := id hP
      rw [if_pos hq] at g1
      subst g1
      have hx1 := hx.fd g3
      refine hg_iload3 d_R_either_8 ?_
      refine hg_bipush (v := 100) d_R_either_9 (by decide) ?_
      refine hg_icmp_ge (tgt := 46) d_R_either_11 (by decide) (fun h_2 => absurd h_2 (nI_ge (b := 100) (by omega) (by decide))) (fun h_2 => ?_)
      refine hg_iload2 d_R_either_14 ?_
      refine hg_if_eq (tgt := 46) d_R_either_15 (by decide) (fun h_3 => absurd h_3 (by decide)) (fun h_3 => ?_)
      refine hg_aload0 d_R_either_18 ?_
      refine hg_bipush (v := 124) d_R_either_19 (by decide) ?_
      refine hg_cVi d_R_either_21 l_R_36 rfl rfl (hX.lt (n := 1) ⟨by decide, by decide⟩ rfl (by omega)) rfl (Nat.le_of_ble_eq_true rfl) (m_R_sign (n := n) (L := L) (p := q.2.1) hX hR hx1 g2 hq2) rfl ?_
      rintro _ _ (hsg | hsg)
      · obtain ⟨hsg, rfl, rfl⟩ := hsg
        refine hg_if_eq (tgt := 46) d_R_either_24 (by decide) (fun h_4 => absurd h_4 (by decide)) (fun h_4 => ?_)
        refine hg_aload0 d_R_either_27 ?_
        refine hg_iload1 d_R_either_28 ?_
        have hlt := (ps_sg_t hsg).1
        obtain ⟨gg1, gg2⟩ := g9 hq
        refine hg_cVi d_R_either_29 l_R_68 rfl rfl (hX.lt (n := 1) ⟨by decide, by decide⟩ rfl (by omega)) rfl (Nat.le_of_ble_eq_true rfl) (hF _ (hg_u3 I1 10 0 2 (nI (q.2.1 + 1))) Lg Rf X (q.2.1 + 1) w1 hD hX hR (hx1.fd (hg_fd.rf.u (by decide))) (by simp [hg_u3]) (by omega) (by simp [hg_u3, g8]) (by omega)) rfl ?_
        rintro v3 _ ⟨I3, rfl, hP3⟩
        obtain ⟨o1, o2, o3⟩ := hFo (q.2.1 + 1) (by omega)
        obtain ⟨w3, hw3a, hw3b⟩ : ∃ w3, I3 10 0 4 = nI w3 ∧ w3 ≤ 100 := by obtain ⟨-, -, -, -, -, w3, -, h7, h8, -⟩ := hP3; exact ⟨w3, h8, h7⟩
        refine hg_istore2 d_R_either_32 rfl ?_
        refine hg_aload0 d_R_either_33 ?_
        refine hg_iconst (v := 0) d_R_either_34 (by decide) ?_
        refine hg_iconst (v := 0) d_R_either_35 (by decide) ?_
        refine hg_iconst (v := 5) d_R_either_36 (by decide) ?_
        refine hg_cVv d_R_either_37 l_R_64 rfl rfl (hX.lt (n := 1) ⟨by decide, by decide⟩ rfl (by omega)) rfl (Nat.le_of_ble_eq_true rfl) (m_R_write (w := w3) hX hR hw3a hw3b) rfl ?_
        rintro M4 hwr
        obtain ⟨I4, rfl, hI4⟩ : ∃ I4, ‹hg_M› = (I4, Lg, Rf, X) ∧ ((w3 = 100 ∧ I4 = I3) ∨ (w3 < 100 ∧ I4 = hg_u3 (hg_u3 I3 12 0 w3 5) 10 0 4 (nI (w3 + 1)))) := by
          rcases hwr with ⟨e, e2⟩ | ⟨e, e2⟩
          · exact ⟨_, e2, Or.inl ⟨e, rfl⟩⟩
          · exact ⟨_, e2, Or.inr ⟨e, rfl⟩⟩
        refine hg_iinc3 (v := nI (i + 1)) d_R_either_40 rfl (nI_add _ _) ?_
        refine hg_goto (tgt := 8) d_R_either_43 (by decide) ?_
        refine ih (i + 1) ((F (q.2.1 + 1)).1, (F (q.2.1 + 1)).2.1, fun f => or (q.2.2 f) ((F (q.2.1 + 1)).2.2 f)) I4 v3 (by omega) (by show p ≤ (F (q.2.1 + 1)).2.1; omega) o2 (ps_P.join (Or.inl ⟨rfl, rfl⟩) hn100 hq1 hwp o2 o1 g3 g4 g5 g6 gg1 gg2 hP3 hw3a hw3b hI4) ?_
        rw [← he]; exact (if_pos ⟨hq, hsg⟩).symm
      · obtain ⟨hsg, rfl, rfl⟩ := hsg
        refine hg_if_eq (tgt := 46) d_R_either_24 (by decide) (fun h_5 => ?_) (fun h_5 => absurd (by decide) h_5)
        refine hg_iload2 d_R_either_46 ?_
        refine hg_ireturn d_R_either_47 rfl (by decide) ?_
        refine ⟨I1, rfl, ?_⟩
        rw [← he, ps_lp_no (fun z => by rw [hsg] at z; exact absurd z.2 (by decide))]; exact hP
    · have g1 := hP.1
      rw [if_neg hq] at g1
      subst g1
      refine hg_iload3 d_R_either_8 ?_
      refine hg_bipush (v := 100) d_R_either_9 (by decide) ?_
      refine hg_icmp_ge (tgt := 46) d_R_either_11 (by decide) (fun h_6 => absurd h_6 (nI_ge (b := 100) (by omega) (by decide))) (fun h_6 => ?_)
      refine hg_iload2 d_R_either_14 ?_
      refine hg_if_eq (tgt := 46) d_R_either_15 (by decide) (fun h_7 => ?_) (fun h_7 => absurd (by decide) h_7)
      refine hg_iload2 d_R_either_46 ?_
      refine hg_ireturn d_R_either_47 rfl (by decide) ?_
      refine ⟨I1, rfl, ?_⟩
      rw [← he, ps_lp_no (fun z => hq z.1)]; exact hP
theorem m_R_either {F : Nat → ps_R} {m b : Nat} {dp : Int32} (hF : ps_K l E T n L Y_R_both m dp b F) (hFo : ps_ok n F) (hm : 4 ≤ m) : ps_K l E T n L Y_R_either (m + 1) dp (b + 1) (ps_E1 n L F) := by
  intro D I Lg Rf X p w hD hX hR hx hp hpn hw hwp
  obtain ⟨d, rfl⟩ : ∃ d, D = d + 5 := ⟨D - 5, by omega⟩
  show hg_MC l E (d + 5) Y_R_either 0 0 _ _ (hg_i (fun v M' => ∃ I' : Nat → Nat → Nat → Int32, M' = (I', Lg, Rf, X) ∧ ps_P (b + 1) w p (ps_E1 n L F p) I I' v))
  refine hg_mc k_R_either (Nat.le_of_ble_eq_true rfl) ?_
  show hg_WP l E (d + 4) Y_R_either 0 0 0 [some (.ref (hg_ad E 10 0)), some (.int dp), none, none] [] (I, Lg, Rf, X) _
  refine hg_aload0 d_R_either_0 ?_
  refine hg_iload1 d_R_either_1 ?_
  refine hg_cVi d_R_either_2 l_R_68 rfl rfl (hX.lt (n := 1) ⟨by decide, by decide⟩ rfl (by omega)) rfl (Nat.le_of_ble_eq_true rfl) (hF _ I Lg Rf X p w (by omega) hX hR hx hp hpn hw hwp) rfl ?_
  rintro v _ ⟨I1, rfl, hP1⟩
  refine hg_istore2 d_R_either_5 rfl ?_
  refine hg_iconst (v := 0) d_R_either_6 (by decide) ?_
  refine hg_istore3 d_R_either_7 rfl ?_
  exact m_R_either_loop hF hFo (by omega) hX hR hx hp hpn hw hwp _ 100 0 (F p) I1 v rfl (hFo p hpn).1 (hFo p hpn).2.1 (hP1.le (Nat.le_succ _)) rfl
theorem m_R_E {F : Nat → ps_R} {m b : Nat} {dp : Int32} (hF : ps_K l E T n L Y_R_factor m dp b F) (hFo : ps_ok n F) (hm : 4 ≤ m) : ps_K l E T n L Y_R_either (m + 2) dp (b + 2) (ps_E n L F) := m_R_either (m_R_both hF hFo hm) (ps_T_ok hFo) (by omega)
def ps_ng (k : Nat) (b : Bool) : Bool := if k % 2 = 1 then !b else b
theorem ps_ng_s (k : Nat) (b : Bool) : ps_ng k (!b) = ps_ng (k + 1) b := by
  unfold ps_ng
  rcases Nat.mod_two_eq_zero_or_one k with h | h
  · rw [if_neg (by omega), if_pos (by omega)]
  · rw [if_pos h, if_neg (by omega), Bool.not_not]
theorem m_R_factor_tail {b p w dep ins k p1 : Nat} (hX : hg_XS T X) (hR : hg_SR T Rf) (hx : ps_X n L I) (hp : I 10 0 2 = nI p) (hpn : p ≤ n) (hw : I 10 0 4 = nI w) (hwp : w ≤ p) (hk : ins = dep + k) (hk4 : k ≤ 4) (hp1 : p1 = p + k) (fin q : ps_R) (a3 : Option Value) (v : Int32) (hfin : fin = (q.1, q.2.1, fun f => ps_ng k (q.2.2 f))) (hq1 : p1 ≤ q.2.1) (hq2 : q.2.1 ≤ n) (hP : ps_P b w p1 q I I1 v) : hg_WP l E (d + 5) Y_R_factor 0 0 67 [some (.ref (hg_ad E 10 0)), some (.int (nI dep)), some (.int (nI ins)), a3] [.int v] (I1, Lg, Rf, X) (hg_i (fun v M' => ∃ I' : Nat → Nat → Nat → Int32, M' = (I', Lg, Rf, X) ∧ ps_P b w p fin I I' v)) := by
  have hn100 := hx.2.2.1
  subst hk
  subst hp1
  obtain ⟨g1, g2, g3, g4, g5, w1, g6, g7, g8, g9⟩ := id hP
  refine hg_istore3 d_R_factor_67 rfl ?_
  refine hg_iload2 d_R_factor_68 ?_
  refine hg_iload1 d_R_factor_69 ?_
  refine hg_isub d_R_factor_70 ?_
  refine hg_eq1 (y := nI k) ((pk_sub (by omega)).trans (by congr 1; omega)) ?_
  refine hg_iconst (v := 2) d_R_factor_71 (by decide) ?_
  refine hg_irem d_R_factor_72 (by decide) ?_
  refine hg_eq1 (y := nI (k % 2)) (pk_rem (d := 2) (by omega) (by decide) (by decide)) ?_
  refine hg_iconst (v := 1) d_R_factor_73 (by decide) ?_
  refine hg_icmp_ne (tgt := 84) d_R_factor_74 (by decide) (fun hpar => ?_) (fun hpar => ?_)
  · have hk1 : ¬ k % 2 = 1 := fun z => hpar (by rw [z]; rfl)
    refine hg_iload3 d_R_factor_84 ?_
    refine hg_ireturn d_R_factor_85 rfl (by rw [g1]; split <;> rfl) ?_
    refine ⟨I1, rfl, ?_⟩
    have hng : (fun f => ps_ng k (q.2.2 f)) = q.2.2 := funext fun f => if_neg hk1
    have e : fin = q := by rw [hfin, hng]
    rw [e]; exact ⟨g1, g2, g3, g4, g5, w1, g6, g7, g8, fun z => ⟨by have := (g9 z).1; omega, (g9 z).2⟩⟩
  · replace hpar := Decidable.not_not.mp hpar
    have hk1 : k % 2 = 1 := (nI_eq (b := 1) (by omega) (by decide)).mp hpar
    refine hg_aload0 d_R_factor_77 ?_
    refine hg_iconst (v := 0) d_R_factor_78 (by decide) ?_
    refine hg_iconst (v := 0) d_R_factor_79 (by decide) ?_
    refine hg_iconst (v := 3) d_R_factor_80 (by decide) ?_
    refine hg_cVv d_R_factor_81 l_R_64 rfl rfl (hX.lt (n := 1) ⟨by decide, by decide⟩ rfl (by omega)) rfl (Nat.le_of_ble_eq_true rfl) (m_R_write (w := w1) hX hR g8 g7) rfl ?_
    rintro _ (⟨e, rfl⟩ | ⟨e, rfl⟩)
    · refine hg_iload3 d_R_factor_84 ?_
      refine hg_ireturn d_R_factor_85 rfl (by rw [g1]; split <;> rfl) ?_
      refine ⟨I1, rfl, ?_⟩
      rw [hfin]; exact ⟨g1, g2, g3, g4, g5, w1, g6, g7, g8, fun z => absurd (g9 z).1 (by omega)⟩
    · refine hg_iload3 d_R_factor_84 ?_
      refine hg_ireturn d_R_factor_85 rfl (by rw [g1]; split <;> rfl) ?_
      refine ⟨_, rfl, ?_⟩
      rw [hfin]
      refine ⟨g1, by rw [← g2]; simp [hg_u3], (g3.v).u (by decide), by rw [← g4]; simp [hg_u3], fun j hj => by rw [← g5 j hj]; simp [hg_u3]; omega, w1 + 1, by omega, by omega, by simp [hg_u3], fun z => ⟨by have := (g9 z).1; show w1 + 1 - w ≤ q.2.1 - p; omega, ?_⟩⟩
      have := ((g9 z).2.cg (cd' := hg_u3 (hg_u3 I1 12 0 w1 (64 * 0 + 8 * 0 + 3)) 10 0 4 (nI (w1 + 1)) 12 0) (fun j h1 h2 => by simp [hg_u3]; omega)).not (by rw [show w + (w1 - w) = w1 by omega]; simp [hg_u3])
      rw [show w1 - w + 1 = w1 + 1 - w by omega] at this
      have e : (fun f => ps_ng k (q.2.2 f)) = fun f => !q.2.2 f := by funext f; exact if_pos hk1
      rw [e]; exact this
theorem m_R_factor_loop {b r p w dep : Nat} (ihf : ∀ r', r' < r → ps_K l E T n L Y_R_factor (3 * r' + 6) (nI (4 - r')) (2 * r' + 1) (ps_F n L r')) (hr4 : r ≤ 4) (hD : 3 * r + 6 ≤ d + 6) (hdep : dep + r = 4) (hb : b = 2 * r + 1) (hX : hg_XS T X) (hR : hg_SR T Rf) (hx : ps_X n L I) (hp : I 10 0 2 = nI p) (hpn : p ≤ n) (hw : I 10 0 4 = nI w) (hwp : w ≤ p) (fin : ps_R) : ∀ (s k ins p1 : Nat) (a3 : Option Value) (I1 : Nat → Nat → Nat → Int32), ins + s = 4 → ins = dep + k → p1 = p + k → p1 ≤ n → I1 10 0 2 = nI p1 → hg_fd I1 I → (∀ j, j ≠ 2 → I1 10 0 j = I 10 0 j) → (∀ j, I1 12 0 j = I 12 0 j) → fin = ((ps_F n L s p1).1, (ps_F n L s p1).2.1, fun f => ps_ng k ((ps_F n L s p1).2.2 f)) → hg_WP l E (d + 5) Y_R_factor 0 0 2 [some (.ref (hg_ad E 10 0)), some (.int (nI dep)), some (.int (nI ins)), a3] [] (I1, Lg, Rf, X) (hg_i (fun v M' => ∃ I' : Nat → Nat → Nat → Int32, M' = (I', Lg, Rf, X) ∧ ps_P b w p fin I I' v)) := by
  have hn100 := hx.2.2.1
  intro s
  induction s with
  | zero =>
    intro k ins p1 a3 I1 his hik hpk hp1 h2 hf h10 h12 hfin
    have hx1 := hx.fd hf
    obtain rfl : ins = 4 := by omega
    refine hg_iload2 d_R_factor_2 ?_
    refine hg_iconst (v := 4) d_R_factor_3 (by decide) ?_
    refine hg_icmp_ge (tgt := 22) d_R_factor_4 (by decide) (fun h_1 => ?_) (fun h_1 => absurd (Int32.le_refl (nI 4)) h_1)
    refine hg_iload2 d_R_factor_22 ?_
    refine hg_iconst (v := 4) d_R_factor_23 (by decide) ?_
    refine hg_icmp_ge (tgt := 63) d_R_factor_24 (by decide) (fun h_2 => ?_) (fun h_2 => absurd (Int32.le_refl (nI 4)) h_2)
    refine hg_aload0 d_R_factor_63 ?_
    refine hg_cVi d_R_factor_64 l_R_74 rfl rfl (hX.lt (n := 1) ⟨by decide, by decide⟩ rfl (by omega)) rfl (Nat.le_of_ble_eq_true rfl) (m_R_test (p := p1) (w := w) hX hR hx1 h2 hp1 (by rw [h10 4 (by decide)]; exact hw) (by omega)) rfl ?_
    rintro v _ ⟨I2, rfl, hP2⟩
    exact m_R_factor_tail hX hR hx hp hpn hw hwp (k := k) (p1 := p1) (by omega) (by omega) hpk fin (ps_F n L 0 p1) _ v hfin (ps_F_ok n L 0 p1 hp1).1 (ps_F_ok n L 0 p1 hp1).2.1 (show ps_P b w p1 (ps_F n L 0 p1) I I2 v from (by obtain ⟨c1, c2, c3, c4, c5, w2, c6, c7, c8, c9⟩ := hP2.le (b' := b) (by omega); exact ⟨c1, c2, c3.tr hf, c4.trans (h10 6 (by decide)), fun j hj => (c5 j hj).trans (h12 j), w2, c6, c7, c8, c9⟩))
  | succ s ih =>
    intro k ins p1 a3 I1 his hik hpk hp1 h2 hf h10 h12 hfin
    have hx1 := hx.fd hf
    skip
    refine hg_iload2 d_R_factor_2 ?_
    refine hg_iconst (v := 4) d_R_factor_3 (by decide) ?_
    refine hg_icmp_ge (tgt := 22) d_R_factor_4 (by decide) (fun h_3 => absurd h_3 (nI_ge (b := 4) (by omega) (by decide))) (fun h_3 => ?_)
    refine hg_aload0 d_R_factor_7 ?_
    refine hg_bipush (v := 33) d_R_factor_8 (by decide) ?_
    refine hg_cVi d_R_factor_10 l_R_36 rfl rfl (hX.lt (n := 1) ⟨by decide, by decide⟩ rfl (by omega)) rfl (Nat.le_of_ble_eq_true rfl) (m_R_sign (n := n) (L := L) (p := p1) hX hR hx1 h2 hp1) rfl ?_
    rintro _ _ (hs1 | hs1)
    · obtain ⟨hs1, rfl, rfl⟩ := hs1
      refine hg_if_eq (tgt := 22) d_R_factor_13 (by decide) (fun h_4 => absurd h_4 (by decide)) (fun h_4 => ?_)
      refine hg_iinc2 (v := nI (ins + 1)) d_R_factor_16 rfl (nI_add _ _) ?_
      refine hg_goto (tgt := 2) d_R_factor_19 (by decide) ?_
      have hlt := (ps_sg_t hs1).1
      have hF : ps_F n L (s + 1) p1 = ((ps_F n L s (p1 + 1)).1, (ps_F n L s (p1 + 1)).2.1, fun f => !(ps_F n L s (p1 + 1)).2.2 f) := if_pos hs1
      have hng : (fun f => ps_ng k (!(ps_F n L s (p1 + 1)).2.2 f)) = fun f => ps_ng (k + 1) ((ps_F n L s (p1 + 1)).2.2 f) := funext fun f => ps_ng_s k _
      exact ih (k + 1) (ins + 1) (p1 + 1) _ _ (by omega) (by omega) (by omega) (by omega) (by simp [hg_u3]) (hf.u (by decide)) (fun j hj => by rw [← h10 j hj]; simp [hg_u3, hj]) (fun j => by rw [← h12 j]; simp [hg_u3]) (by rw [hfin, hF]; show ((ps_F n L s (p1 + 1)).1, (ps_F n L s (p1 + 1)).2.1, fun f => ps_ng k (!(ps_F n L s (p1 + 1)).2.2 f)) = _; rw [hng])
    · obtain ⟨hs1, rfl, rfl⟩ := hs1
      refine hg_if_eq (tgt := 22) d_R_factor_13 (by decide) (fun h_5 => ?_) (fun h_5 => absurd (by decide) h_5)
      refine hg_iload2 d_R_factor_22 ?_
      refine hg_iconst (v := 4) d_R_factor_23 (by decide) ?_
      refine hg_icmp_ge (tgt := 63) d_R_factor_24 (by decide) (fun h_6 => absurd h_6 (nI_ge (b := 4) (by omega) (by decide))) (fun h_6 => ?_)
      refine hg_aload0 d_R_factor_27 ?_
      refine hg_bipush (v := 40) d_R_factor_28 (by decide) ?_
      refine hg_cVi d_R_factor_30 l_R_36 rfl rfl (hX.lt (n := 1) ⟨by decide, by decide⟩ rfl (by omega)) rfl (Nat.le_of_ble_eq_true rfl) (m_R_sign (n := n) (L := L) (p := p1) hX hR hx1 h2 hp1) rfl ?_
      rintro _ _ (hs2 | hs2)
      · obtain ⟨hs2, rfl, rfl⟩ := hs2
        refine hg_if_eq (tgt := 63) d_R_factor_33 (by decide) (fun h_7 => absurd h_7 (by decide)) (fun h_7 => ?_)
        refine hg_aload0 d_R_factor_36 ?_
        refine hg_iload2 d_R_factor_37 ?_
        refine hg_iconst (v := 1) d_R_factor_38 (by decide) ?_
        refine hg_iadd d_R_factor_39 ?_
        refine hg_eq1 (y := nI (ins + 1)) (nI_add _ _) ?_
        have hlt := (ps_sg_t hs2).1
        have hE := m_R_E (ihf s (by omega)) (ps_F_ok n L s) (by omega)
        rw [show nI (4 - s) = nI (ins + 1) by congr 1; omega] at hE
        refine hg_cVi d_R_factor_40 l_R_60 rfl rfl (hX.lt (n := 1) ⟨by decide, by decide⟩ rfl (by omega)) rfl (Nat.le_of_ble_eq_true rfl) (hE _ (hg_u3 I1 10 0 2 (nI (p1 + 1))) Lg Rf X (p1 + 1) w (by omega) hX hR (hx1.fd (hg_fd.rf.u (by decide))) (by simp [hg_u3]) (by omega) (by simp [hg_u3, h10, hw]) (by omega)) rfl ?_
        rintro v _ ⟨I3, rfl, hP3⟩
        obtain ⟨e1, e2, e3⟩ := ps_E_ok (ps_F_ok n L s) (p1 + 1) (by omega)
        obtain ⟨c1, c2, c3, c4, c5, w2, c6, c7, c8, c9⟩ := hP3
        have hx3 := (hx1.fd (hg_fd.rf.u (j := 2) (x := nI (p1 + 1)) (by decide))).fd c3
        have hf3 : hg_fd I3 I := c3.tr (hf.u (by decide))
        have h63 : I3 10 0 6 = I 10 0 6 := c4.trans ((by simp [hg_u3] : _ = I1 10 0 6).trans (h10 6 (by decide)))
        have hpr3 : ∀ j, j < w → I3 12 0 j = I 12 0 j := fun j hj => (c5 j hj).trans ((by simp [hg_u3] : _ = I1 12 0 j).trans (h12 j))
        by_cases hu : (ps_E n L (ps_F n L s) (p1 + 1)).1 = true
        · rw [if_pos hu] at c1
          subst c1
          refine hg_if_eq (tgt := 59) d_R_factor_43 (by decide) (fun h_8 => absurd h_8 (by decide)) (fun h_8 => ?_)
          refine hg_aload0 d_R_factor_46 ?_
          refine hg_bipush (v := 41) d_R_factor_47 (by decide) ?_
          refine hg_cVi d_R_factor_49 l_R_36 rfl rfl (hX.lt (n := 1) ⟨by decide, by decide⟩ rfl (by omega)) rfl (Nat.le_of_ble_eq_true rfl) (m_R_sign (n := n) (L := L) (p := (ps_E n L (ps_F n L s) (p1 + 1)).2.1) hX hR hx3 c2 e2) rfl ?_
          rintro _ _ (hs3 | hs3)
          · obtain ⟨hs3, rfl, rfl⟩ := hs3
            refine hg_if_eq (tgt := 59) d_R_factor_52 (by decide) (fun h_9 => absurd h_9 (by decide)) (fun h_9 => ?_)
            refine hg_iconst (v := 1) d_R_factor_55 (by decide) ?_
            refine hg_goto (tgt := 67) d_R_factor_56 (by decide) ?_
            have hlt3 := (ps_sg_t hs3).1
            have hF : ps_F n L (s + 1) p1 = (true, (ps_E n L (ps_F n L s) (p1 + 1)).2.1 + 1, (ps_E n L (ps_F n L s) (p1 + 1)).2.2) := by unfold ps_F; rw [if_neg (by rw [hs1]; decide), if_pos hs2, if_pos ⟨hu, hs3⟩]
            exact m_R_factor_tail hX hR hx hp hpn hw hwp (k := k) (p1 := p1) (by omega) (by omega) hpk fin (true, (ps_E n L (ps_F n L s) (p1 + 1)).2.1 + 1, (ps_E n L (ps_F n L s) (p1 + 1)).2.2) _ 1 (by rw [hfin, hF]) (by show p1 ≤ (ps_E n L (ps_F n L s) (p1 + 1)).2.1 + 1; omega) (by show (ps_E n L (ps_F n L s) (p1 + 1)).2.1 + 1 ≤ n; omega) ⟨rfl, by simp [hg_u3], hf3.u (by decide), by rw [← h63]; simp [hg_u3], fun j hj => by rw [← hpr3 j hj]; simp [hg_u3], w2, c6, c7, by rw [← c8]; simp [hg_u3], fun _ => ⟨by have := (c9 hu).1; show w2 - w ≤ (ps_E n L (ps_F n L s) (p1 + 1)).2.1 + 1 - p1; omega, ((c9 hu).2.cg (fun j _ _ => by simp [hg_u3])).le (by omega)⟩⟩
          · obtain ⟨hs3, rfl, rfl⟩ := hs3
            refine hg_if_eq (tgt := 59) d_R_factor_52 (by decide) (fun h_10 => ?_) (fun h_10 => absurd (by decide) h_10)
            refine hg_iconst (v := 0) d_R_factor_59 (by decide) ?_
            refine hg_goto (tgt := 67) d_R_factor_60 (by decide) ?_
            have hF : ps_F n L (s + 1) p1 = (false, (ps_E n L (ps_F n L s) (p1 + 1)).2.1, (ps_E n L (ps_F n L s) (p1 + 1)).2.2) := by unfold ps_F; rw [if_neg (by rw [hs1]; decide), if_pos hs2, if_neg (fun z => by rw [hs3] at z; exact absurd z.2 (by decide))]
            exact m_R_factor_tail hX hR hx hp hpn hw hwp (k := k) (p1 := p1) (by omega) (by omega) hpk fin (false, (ps_E n L (ps_F n L s) (p1 + 1)).2.1, (ps_E n L (ps_F n L s) (p1 + 1)).2.2) _ 0 (by rw [hfin, hF]) (by show p1 ≤ (ps_E n L (ps_F n L s) (p1 + 1)).2.1; omega) (e2) ⟨rfl, c2, hf3, h63, hpr3, w2, c6, c7, c8, fun z => Bool.noConfusion (show false = true from z)⟩
        · rw [if_neg hu] at c1
          subst c1
          refine hg_if_eq (tgt := 59) d_R_factor_43 (by decide) (fun h_11 => ?_) (fun h_11 => absurd (by decide) h_11)
          refine hg_iconst (v := 0) d_R_factor_59 (by decide) ?_
          refine hg_goto (tgt := 67) d_R_factor_60 (by decide) ?_
          have hF : ps_F n L (s + 1) p1 = (false, (ps_E n L (ps_F n L s) (p1 + 1)).2.1, (ps_E n L (ps_F n L s) (p1 + 1)).2.2) := by unfold ps_F; rw [if_neg (by rw [hs1]; decide), if_pos hs2, if_neg (fun z => hu z.1)]
          exact m_R_factor_tail hX hR hx hp hpn hw hwp (k := k) (p1 := p1) (by omega) (by omega) hpk fin (false, (ps_E n L (ps_F n L s) (p1 + 1)).2.1, (ps_E n L (ps_F n L s) (p1 + 1)).2.2) _ 0 (by rw [hfin, hF]) (by show p1 ≤ (ps_E n L (ps_F n L s) (p1 + 1)).2.1; omega) (e2) ⟨rfl, c2, hf3, h63, hpr3, w2, c6, c7, c8, fun z => Bool.noConfusion (show false = true from z)⟩
      · obtain ⟨hs2, rfl, rfl⟩ := hs2
        refine hg_if_eq (tgt := 63) d_R_factor_33 (by decide) (fun h_12 => ?_) (fun h_12 => absurd (by decide) h_12)
        refine hg_aload0 d_R_factor_63 ?_
        refine hg_cVi d_R_factor_64 l_R_74 rfl rfl (hX.lt (n := 1) ⟨by decide, by decide⟩ rfl (by omega)) rfl (Nat.le_of_ble_eq_true rfl) (m_R_test (p := p1) (w := w) hX hR hx1 h2 hp1 (by rw [h10 4 (by decide)]; exact hw) (by omega)) rfl ?_
        rintro v _ ⟨I2, rfl, hP2⟩
        have hF : ps_F n L (s + 1) p1 = ps_test n L p1 := by unfold ps_F; rw [if_neg (by rw [hs1]; decide), if_neg (by rw [hs2]; decide)]
        exact m_R_factor_tail hX hR hx hp hpn hw hwp (k := k) (p1 := p1) (by omega) (by omega) hpk fin (ps_test n L p1) _ v (by rw [hfin, hF]) (ps_test_ok n L p1 hp1).1 (ps_test_ok n L p1 hp1).2.1 (show ps_P b w p1 (ps_test n L p1) I I2 v from (by obtain ⟨c1, c2, c3, c4, c5, w2, c6, c7, c8, c9⟩ := hP2.le (b' := b) (by omega); exact ⟨c1, c2, c3.tr hf, c4.trans (h10 6 (by decide)), fun j hj => (c5 j hj).trans (h12 j), w2, c6, c7, c8, c9⟩))
theorem m_R_factor : ∀ r, r ≤ 4 → ps_K l E T n L Y_R_factor (3 * r + 6) (nI (4 - r)) (2 * r + 1) (ps_F n L r) := by
  intro r
  induction r using Nat.strongRecOn with
  | _ r ihf =>
    intro hr4 D I Lg Rf X p w hD hX hR hx hp hpn hw hwp
    obtain ⟨d, rfl⟩ : ∃ d, D = d + 6 := ⟨D - 6, by omega⟩
    show hg_MC l E (d + 6) Y_R_factor 0 0 _ _ (hg_i (fun v M' => ∃ I' : Nat → Nat → Nat → Int32, M' = (I', Lg, Rf, X) ∧ ps_P (2 * r + 1) w p (ps_F n L r p) I I' v))
    refine hg_mc k_R_factor (Nat.le_of_ble_eq_true rfl) ?_
    show hg_WP l E (d + 5) Y_R_factor 0 0 0 [some (.ref (hg_ad E 10 0)), some (.int (nI (4 - r))), none, none] [] (I, Lg, Rf, X) _
    refine hg_iload1 d_R_factor_0 ?_
    refine hg_istore2 d_R_factor_1 rfl ?_
    exact m_R_factor_loop (fun r' h => ihf r' h (by omega)) hr4 (by omega) (by omega) rfl hX hR hx hp hpn hw hwp _ r 0 (4 - r) p none I (by omega) (by omega) rfl hpn hp hg_fd.rf (fun _ _ => rfl) (fun _ => rfl) (by have : (fun f => ps_ng 0 ((ps_F n L r p).2.2 f)) = (ps_F n L r p).2.2 := rfl; rw [this])
end M19
