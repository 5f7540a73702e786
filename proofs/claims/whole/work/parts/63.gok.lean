/-! what always holds, holds behind each call -/
section GOK
variable {G : hs_G} {σ : hs_S} {T : Nat}
theorem hs_Lok.mono {n n2 : Nat} {a : hs_L} (hn : n ≤ n2) : ∀ {k : Nat}, k < 3 → hs_Lok n a k → hs_Lok n2 a k
  | 0, _, h => fun i hi => ⟨(h i hi).1, (h i hi).2.imp id (fun ⟨q, q1, q2⟩ => ⟨q, by omega, q2⟩)⟩
  | 1, _, h => fun i hi => by
    obtain ⟨w, h1, h2, h3⟩ := h i hi
    exact ⟨w, h1, h2, h3.imp id (fun ⟨q, q1, q2⟩ => ⟨q, by omega, q2⟩)⟩
  | 2, _, h => fun i hi => by
    obtain ⟨q, q1, q2⟩ := h i hi
    exact ⟨q, by omega, q2⟩
  | k + 3, h, _ => absurd h (by omega)
theorem hs_ok.mono {T2 : Nat} (h : hs_ok T σ) (hT : T ≤ T2) : hs_ok T2 σ := by
  obtain ⟨h1, h2, h3, h4, h5, h6, h7, h8⟩ := h
  exact ⟨h1, h2, h3, h4, h5, h6, h7, by omega⟩
theorem hs_ok.add (h : hs_ok T σ) {k : Nat} {v b : Int32} (hk : k ≤ 6) (hn : ¬ hs_n σ = 6) : hs_ok T (hs_add σ (nI k) v b) := by
  obtain ⟨h1, h2, h3, h4, h5, h6, h7, h8⟩ := h
  have kn : hs_n (hs_add σ (nI k) v b) = hs_n σ + 1 := rfl
  have ks : ∀ j, hs_st (hs_add σ (nI k) v b) j = if j = hs_n σ then hs_n σ else hs_st σ j := fun j => rfl
  refine ⟨by rw [kn]; omega, Or.inl (by rw [kn]; show hs_p σ < _; omega), fun j hj => ?_, fun i j hi hj e => ?_, fun q hq => ?_, h6, h7, h8⟩
  · rw [kn] at hj ⊢; rw [ks]
    split
    · omega
    · have := h3 j (by omega); omega
  · rw [kn] at hi hj
    rw [ks, ks] at e
    split at e <;> split at e
    · omega
    · have := h3 j (by omega); omega
    · have := h3 i (by omega); omega
    · exact h4 i j (by omega) (by omega) e
  · rw [kn] at hq
    have kh : ∀ f, hs_hv (hs_add σ (nI k) v b) q f = if q = hs_n σ then hs_nh (nI k) v b f else hs_hv σ q f := fun f => rfl
    rw [kh, kh, kh]
    by_cases z : q = hs_n σ
    · simp only [if_pos z]
      exact ⟨⟨k, hk, rfl⟩, ⟨0, Nat.zero_le _, rfl⟩, Or.inl rfl⟩
    · simp only [if_neg z]
      exact h5 q (by omega)
-- the street is another, with as many HOUSES or more
theorem hs_gok.N (hG : hs_gok G) (h1 : hs_ok (gT G) σ) (h2 : hs_wk σ ≤ 9999) (h3 : hs_n (gN G) ≤ hs_n σ) : hs_gok (gsN G σ) := by
  obtain ⟨g1, g2, g3, g4, g5, g6, g7, g8, g9, g10, g11⟩ := hG
  exact ⟨h1, h2, g3, g4, fun k hk => (g5 k hk).mono h3 hk, g6, g7, g8, g9, g10, g11⟩
theorem hs_gok.P (hG : hs_gok G) {t : Nat} {a : hs_P} (h : hs_Pok a) : hs_gok (gsP G t a) := by
  obtain ⟨g1, g2, g3, g4, g5, g6, g7, g8, g9, g10, g11⟩ := hG
  refine ⟨g1, g2, g3, g4, g5, g6, g7, g8, g9, g10, fun u hu => ?_⟩
  show hs_Pok (if u = t then a else gP G u)
  split
  · exact h
  · exact g11 u hu
theorem hs_gok.K (hG : hs_gok G) {x : tk_S} (h : x.1 ≤ 1000) : hs_gok (gsK G x) := by
  obtain ⟨g1, g2, g3, g4, g5, g6, g7, g8, g9, g10, g11⟩ := hG
  exact ⟨g1, g2, g3, g4, g5, g6, g7, g8, g9, h, g11⟩
theorem hs_gok.tx (hG : hs_gok G) {x : Nat × (Nat → Int32)} (h : x.1 ≤ 100) (h2 : ∀ j, j < x.1 → ∃ c : Nat, c < 128 ∧ x.2 j = nI c) : hs_gok (gsX G x) := by
  obtain ⟨g1, g2, g3, g4, g5, g6, g7, g8, g9, g10, g11⟩ := hG
  exact ⟨g1, g2, g3, g4, g5, g6, h, h2, g9, g10, g11⟩
theorem hs_gok.L (hG : hs_gok G) {k : Nat} {a : hs_L} (hk : k < 3) (h : a.1 ≤ hs_cp (2 * k)) (h2 : hs_Lok (hs_n (gN G)) a k) : hs_gok (gsL G (2 * k) a) := by
  obtain ⟨g1, g2, g3, g4, g5, g6, g7, g8, g9, g10, g11⟩ := hG
  refine ⟨g1, g2, g3, fun r hr => ?_, fun q hq => ?_, fun hH q hq => ?_, g7, g8, g9, g10, g11⟩
  · show (if r = 2 * k then a else gL G r).1 ≤ _
    split
    · rename_i z; rw [z]; exact h
    · exact g4 r hr
  · show hs_Lok _ (if 2 * q = 2 * k then a else gL G (2 * q)) q
    split
    · rename_i z; obtain rfl : q = k := by omega
      exact h2
    · exact g5 q hq
  · show hs_Lok _ (if 2 * q + 1 = 2 * k then a else gL G (2 * q + 1)) q
    rw [if_neg (by omega)]; exact g6 hH q hq
theorem hs_Lok.emp {n k : Nat} {a : hs_L} : hs_Lok n (0, a.2) k := by
  unfold hs_Lok
  split <;> exact fun i hi => absurd hi (Nat.not_lt_zero i)
theorem go_house {k v b : Int32} (hG : hs_gok G) : hs_gok (so_house G k v b).2 := by
  unfold so_house
  split
  · exact hG
  · rename_i z; obtain ⟨z1, z2⟩ := hs_ix_of z; subst z2
    split
    · exact hG
    · split
      · exact hG
      · split
        · exact hG
        · exact hG.N (hG.1.add (by omega) (by assumption)) hG.2.1 (Nat.le_succ _)
theorem go_set {x w n : Int32} (hG : hs_gok G) : hs_gok (so_set G x w n).2 := by
  unfold so_set
  split
  · exact hG
  · split
    · exact hG
    · split
      · exact hG
      · refine hG.N (hG.1.shv ?_ ?_ ?_) hG.2.1 (Nat.le_refl _)
        · unfold hs_fld; split <;> (try split) <;> decide
        · unfold hs_fld; split <;> (try split) <;> decide
        · unfold hs_fld; split <;> (try split) <;> exact fun z => absurd z (by decide)
theorem go_shut {x b : Int32} (hb : b = 0 ∨ b = 1) (hG : hs_gok G) : hs_gok (so_shut G x b).2 := by
  unfold so_shut
  split
  · exact hG
  · exact hG.N (hG.1.shv (by decide) (by decide) (fun _ => hb)) hG.2.1 (Nat.le_refl _)
theorem go_swap {x y : Int32} (hG : hs_gok G) : hs_gok (so_swap G x y).2 := by
  unfold so_swap
  split
  · exact hG
  · rename_i z; have h1 := (hs_ix_of z).1
    split
    · exact hG
    · rename_i z2; have h2 := (hs_ix_of z2).1
      split
      · exact hG
      · exact hG.N (hG.1.chg h1 h2) hG.2.1 (Nat.le_refl _)
theorem go_row {x w n : Int32} (hG : hs_gok G) : hs_gok (so_row G x w n).2 := by
  unfold so_row
  split
  · exact hG
  · split
    · exact hG
    · split
      · exact hG
      · split
        · exact hG.N hG.1 hG.2.1 (Nat.le_refl _)
        · exact hG
theorem go_feed {x : Int32} (hG : hs_gok G) : hs_gok (so_feed G x).2 := by
  unfold so_feed
  split
  · exact hG
  · rename_i z; obtain ⟨z1, z2⟩ := hs_ix_of z
    split
    · exact hG
    · have h7 := hG.2.2.2.2.2.2.1
      refine hG.tx (by show (gX G).1 + 1 ≤ 100; omega) (fun j hj => ?_)
      show ∃ c : Nat, c < 128 ∧ (if j = (gX G).1 then x else (gX G).2 j) = nI c
      split
      · exact ⟨_, z1, z2⟩
      · exact hG.2.2.2.2.2.2.2.1 j (by have hj : j < (gX G).1 + 1 := hj; omega)
theorem go_town (hG : hs_gok G) : hs_gok (so_town G).2 := by
  unfold so_town
  split
  · exact hG
  · split
    · obtain ⟨g1, g2, g3, g4, g5, g6, g7, g8, g9, g10, g11⟩ := hG
      refine ⟨?_, g2, fun h => ⟨((g3 h).1).mono (Nat.le_succ _), (g3 h).2⟩, g4, g5, g6, Nat.zero_le _, fun j hj => absurd hj (Nat.not_lt_zero j), by show gT G + 1 ≤ 6; omega, g10, g11⟩
      obtain ⟨h1, h2, h3, h4, h5, h6, h7, h8⟩ := g1
      exact ⟨h1, h2, h3, h4, h5, h6, h7, Nat.le_refl _⟩
    · exact hG.tx (Nat.zero_le _) (fun j hj => absurd hj (Nat.not_lt_zero j))
theorem go_pass {x : Int32} (hG : hs_gok G) : hs_gok (so_pass G x).2 := by
  unfold so_pass
  split
  · exact hG
  · rename_i m _
    split
    · exact hG
    · obtain ⟨a, b, c, -⟩ := hs_th_all (tw := gW G) hG.1 m
      exact hG.N a (by rw [b]; omega) (by rw [c]; exact Nat.le_refl _)
theorem go_lemp {k : Nat} (hk : k < 3) (hG : hs_gok G) : hs_gok (so_lemp G (2 * k)).2 := hG.L hk (Nat.zero_le _) hs_Lok.emp
theorem go_ladd {k c : Nat} {x y : Int32} (hk : k < 3) (hc : hs_cp (2 * k) = c) (hG : hs_gok G) (h0 : k = 0 → (∃ m : Nat, m ≤ 12 ∧ x = nI m) ∧ (y = -1 ∨ ∃ h : Nat, h < hs_n (gN G) ∧ y = nI h)) (h1 : k = 1 → ∃ w : Nat, w ≤ 3 ∧ x = nI w ∧ (w = 0 ∨ ∃ h : Nat, h < hs_n (gN G) ∧ y = nI h)) (h2 : k = 2 → ∃ h : Nat, h < hs_n (gN G) ∧ x = nI h) : hs_gok (so_ladd G (2 * k) c x y).2 := by
  unfold so_ladd
  split
  · exact hG
  · have hle := hG.2.2.2.1 (2 * k) (by omega)
    have hL := hG.2.2.2.2.1 k hk
    refine hG.L hk (by rw [hc] at hle ⊢; show (gL G (2 * k)).1 + 1 ≤ c; omega) ?_
    have hk3 : k = 0 ∨ k = 1 ∨ k = 2 := by omega
    rcases hk3 with rfl | rfl | rfl
    · intro i hi
      have hi : i < (gL G 0).1 + 1 := hi
      show (∃ m : Nat, m ≤ 12 ∧ (if i = (gL G 0).1 then x else (gL G 0).2.1 i) = nI m) ∧ ((if i = (gL G 0).1 then y else (gL G 0).2.2 i) = -1 ∨ ∃ h : Nat, h < hs_n (gN G) ∧ (if i = (gL G 0).1 then y else (gL G 0).2.2 i) = nI h)
      by_cases z : i = (gL G 0).1
      · simp only [if_pos z]; exact h0 rfl
      · simp only [if_neg z]; exact hL i (show i < (gL G 0).1 by omega)
    · intro i hi
      have hi : i < (gL G 2).1 + 1 := hi
      show ∃ w : Nat, w ≤ 3 ∧ (if i = (gL G 2).1 then x else (gL G 2).2.1 i) = nI w ∧ (w = 0 ∨ ∃ h : Nat, h < hs_n (gN G) ∧ (if i = (gL G 2).1 then y else (gL G 2).2.2 i) = nI h)
      by_cases z : i = (gL G 2).1
      · simp only [if_pos z]; exact h1 rfl
      · simp only [if_neg z]; exact hL i (show i < (gL G 2).1 by omega)
    · intro i hi
      have hi : i < (gL G 4).1 + 1 := hi
      show ∃ h : Nat, h < hs_n (gN G) ∧ (if i = (gL G 4).1 then x else (gL G 4).2.1 i) = nI h
      by_cases z : i = (gL G 4).1
      · simp only [if_pos z]; exact h2 rfl
      · simp only [if_neg z]; exact hL i (show i < (gL G 4).1 by omega)
theorem go_see {n h : Int32} (hG : hs_gok G) : hs_gok (so_see G n h).2 := by
  unfold so_see
  split
  · exact go_lemp (k := 0) (by decide) hG
  · split
    · exact hG
    · rename_i z
      split
      · exact hG
      · rename_i y; obtain ⟨y1, y2⟩ := hs_ix_of y
        refine go_ladd (k := 0) (by decide) rfl hG (fun _ => ⟨⟨_, by omega, y2⟩, ?_⟩) (fun q => absurd q (by decide)) (fun q => absurd q (by decide))
        by_cases u : h = -1
        · exact Or.inl u
        · right
          cases v : hs_ix (hs_n (gN G)) h with
          | none => exact absurd ⟨u, v⟩ z
          | some q => exact ⟨q, (hs_ix_of v).1, (hs_ix_of v).2⟩
theorem go_plan {w h : Int32} (hG : hs_gok G) : hs_gok (so_plan G w h).2 := by
  unfold so_plan
  split
  · exact go_lemp (k := 1) (by decide) hG
  · split
    · exact hG
    · rename_i j y; obtain ⟨y1, y2⟩ := hs_ix_of y
      split
      · exact hG
      · rename_i z
        refine go_ladd (k := 1) (by decide) rfl hG (fun q => absurd q (by decide)) (fun _ => ⟨j, by omega, y2, ?_⟩) (fun q => absurd q (by decide))
        by_cases u : j = 0
        · exact Or.inl u
        · right
          cases v : hs_ix (hs_n (gN G)) h with
          | none => exact absurd ⟨u, v⟩ z
          | some q => exact ⟨q, (hs_ix_of v).1, (hs_ix_of v).2⟩
theorem go_book {h n : Int32} (hG : hs_gok G) : hs_gok (so_book G h n).2 := by
  unfold so_book
  split
  · exact go_lemp (k := 2) (by decide) hG
  · split
    · exact hG
    · rename_i q y
      split
      · exact hG
      · exact go_ladd (k := 2) (by decide) rfl hG (fun q => absurd q (by decide)) (fun q => absurd q (by decide)) (fun _ => ⟨q, (hs_ix_of y).1, (hs_ix_of y).2⟩)
theorem go_image (hG : hs_gok G) : hs_gok (so_image G).2 := by
  obtain ⟨g1, g2, g3, g4, g5, g6, g7, g8, g9, g10, g11⟩ := hG
  refine ⟨g1, g2, fun _ => ⟨g1, g2⟩, fun r hr => ?_, fun k hk => ?_, fun _ k hk => ?_, g7, g8, g9, g10, g11⟩
  · show (gL G (r / 2 * 2)).1 ≤ hs_cp r
    have h6 : r = 0 ∨ r = 1 ∨ r = 2 ∨ r = 3 ∨ r = 4 ∨ r = 5 := by omega
    rcases h6 with rfl | rfl | rfl | rfl | rfl | rfl
    · exact g4 0 (by decide)
    · exact g4 0 (by decide)
    · exact g4 2 (by decide)
    · exact g4 2 (by decide)
    · exact g4 4 (by decide)
    · exact g4 4 (by decide)
  · show hs_Lok _ (gL G (2 * k / 2 * 2)) k
    rw [show 2 * k / 2 * 2 = 2 * k by omega]; exact g5 k hk
  · show hs_Lok (hs_n (gN G)) (gL G ((2 * k + 1) / 2 * 2)) k
    rw [show (2 * k + 1) / 2 * 2 = 2 * k by omega]; exact g5 k hk
theorem go_undo (hG : hs_gok G) : hs_gok (so_undo G).2 := by
  unfold so_undo
  split
  · rename_i hH
    obtain ⟨g1, g2, g3, g4, g5, g6, g7, g8, g9, g10, g11⟩ := hG
    refine ⟨(g3 hH).1, (g3 hH).2, g3, fun r hr => ?_, fun k hk => ?_, fun h k hk => ?_, g7, g8, g9, g10, g11⟩
    · show (gL G (r / 2 * 2 + 1)).1 ≤ hs_cp r
      have h6 : r = 0 ∨ r = 1 ∨ r = 2 ∨ r = 3 ∨ r = 4 ∨ r = 5 := by omega
      rcases h6 with rfl | rfl | rfl | rfl | rfl | rfl
      · exact g4 1 (by decide)
      · exact g4 1 (by decide)
      · exact g4 3 (by decide)
      · exact g4 3 (by decide)
      · exact g4 5 (by decide)
      · exact g4 5 (by decide)
    · show hs_Lok (hs_n (gI G)) (gL G (2 * k / 2 * 2 + 1)) k
      rw [show 2 * k / 2 * 2 + 1 = 2 * k + 1 by omega]; exact g6 hH k hk
    · show hs_Lok (hs_n (gI G)) (gL G ((2 * k + 1) / 2 * 2 + 1)) k
      rw [show (2 * k + 1) / 2 * 2 + 1 = 2 * k + 1 by omega]; exact g6 hH k hk
  · exact hG
theorem tk_L_le (p : Nat) (v : Int32) (K k : Nat) (x : Int32) (st : tk_S) : (tk_L p v K k x st).2.1 ≤ st.1 + 20 := by
  have h0 := tk_L0_le p v K x st
  have h3 : (tk_L3 p v K x st).2.1 ≤ st.1 + 20 := by
    have a := tk_L0_le p v K x (tk_r 40 st)
    have b := tk_T_le p v K K 1 (tk_L0 p v K x (tk_r 40 st)).2
    have e : (tk_r 40 st).1 = st.1 + 1 := rfl
    show (tk_T p v K K 1 (tk_L0 p v K x (tk_r 40 st)).2).2.1 ≤ _
    omega
  have h5 := tk_L0_le p v K (x - nI p) (tk_r 60 st)
  have e5 : (tk_r 60 st).1 = st.1 + 1 := rfl
  unfold tk_L
  split
  · exact h3
  · exact h3
  · omega
  · omega
theorem go_act {x a y : Int32} (hG : hs_gok G) : hs_gok (so_act G x a y).2 := by
  unfold so_act
  split
  · exact hG.K (Nat.zero_le _)
  · rename_i h _
    split
    · exact hG.K (Nat.zero_le _)
    · refine hG.K ?_
      unfold tk_run
      have h1 := tk_A_le h (hs_hv (gN G) h 1) (hs_hv (gN G) h 0).toNatClampNeg y (0, (gK G).2)
      have h2 := tk_T_le h (hs_hv (gN G) h 1) (hs_hv (gN G) h 0).toNatClampNeg (hs_hv (gN G) h 0).toNatClampNeg y (0, (gK G).2)
      have h3 := tk_L_le h (hs_hv (gN G) h 1) (hs_hv (gN G) h 0).toNatClampNeg (hs_hv (gN G) h 0).toNatClampNeg y (0, (gK G).2)
      split
      · exact Nat.le_trans h1 (by show 0 + 2 ≤ 1000; omega)
      · split
        · exact Nat.le_trans h2 (by show 0 + 6 ≤ 1000; omega)
        · exact Nat.le_trans h3 (by show 0 + 20 ≤ 1000; omega)
theorem go_tape {x s n : Int32} (hG : hs_gok G) : hs_gok (so_tape G x s n).2 := by
  unfold so_tape
  split
  · exact hG
  · split
    · exact hG.P ⟨Nat.zero_le _, Or.inl ⟨rfl, rfl⟩⟩
    · split
      · exact hG
      · rename_i k y; obtain ⟨y1, y2⟩ := hs_ix_of y
        split
        · exact hG
        · rename_i u
          split
          · exact hG
          · rename_i v
            obtain ⟨m, hm, em⟩ := nI_of2 (M := 60) (n := 60) (by decide) v (Int32.not_lt.mp u)
            refine hG.P ⟨?_, Or.inr ⟨k, by omega, y2⟩⟩
            show n.toNatClampNeg ≤ 60
            rw [em, nI_clamp (by omega)]; exact hm
theorem go_item {x i : Int32} {v : Int64} (hG : hs_gok G) : hs_gok (so_item G x i v).2 := by
  unfold so_item
  split
  · exact hG
  · rename_i t y; have ht := (hs_ix_of y).1
    split
    · exact hG
    · split
      · exact hG
      · exact hG.P (hG.2.2.2.2.2.2.2.2.2.2 t ht)
theorem go_shift {x i y j n : Int32} (hG : hs_gok G) : hs_gok (so_shift G x i y j n).2 := by
  unfold so_shift
  split
  · exact hG
  · split
    · exact hG
    · rename_i u z; have hu := (hs_ix_of z).1
      split
      · exact hG
      · split
        · split
          · exact hG.P (hG.2.2.2.2.2.2.2.2.2.2 u hu)
          · exact hG
        · exact hG
end GOK
