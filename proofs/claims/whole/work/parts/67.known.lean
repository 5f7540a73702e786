/-! what is known at the entry of the law -/
theorem hy_arr {args : Array Value} {s : State} {t : FieldType} (h : (Cond.arrayClass t).before args s = true) : ∃ cA : ClassId, ArrOfT s cA t ∧ s.vm.findClass ("[" ++ t.toString) = some cA := by
  obtain ⟨c, k, comp, h1, h2, h3⟩ := Cond.arrayClass_spec h
  exact ⟨c, fun n z => ⟨fun k h => (by cases h), k, h2, comp, h3⟩, h1⟩
theorem hy_obj {args : Array Value} {s : State} {C : String} (h : (Cond.arrayOver (.object C)).before args s = true) : ∃ cA : ClassId, ArrOfT s cA (.object C) ∧ va_RA s cA (.object C) := by
  obtain ⟨comp, c, k, h1, h2, h3, h4, h5⟩ := Cond.arrayOver_spec h
  exact ⟨c, fun n z => ⟨fun k h => (by cases h), k, h3, comp, h4⟩, k, comp, h3, h4, h1, h5⟩
theorem hy_inst : ∀ c, c < 9 → Cond.instantiable (hg_C c) (hg_N c) ∈ hg_T := by
  intro c hc
  match c, hc with
  | 0, _ => exact hg_in 127 (by decide +kernel) rfl
  | 1, _ => exact hg_in 46 (by decide +kernel) rfl
  | 2, _ => exact hg_in 26 (by decide +kernel) rfl
  | 3, _ => exact hg_in 120 (by decide +kernel) rfl
  | 4, _ => exact hg_in 76 (by decide +kernel) rfl
  | 5, _ => exact hg_in 211 (by decide +kernel) rfl
  | 6, _ => exact hg_in 102 (by decide +kernel) rfl
  | 7, _ => exact hg_in 18 (by decide +kernel) rfl
  | 8, _ => exact hg_in 745 (by decide +kernel) rfl
theorem hy_cls {args : Array Value} {s : State} (hts : ∀ w ∈ hg_T, w.before args s = true) : ∃ (dC : Nat → ClassId) (dI : Nat → Nat → Nat), ∀ (c : Nat) (q : vw_C), hg_cls[c]? = some q → u_Kn s q.1 q.2.1 q.2.2 (dC c) (dI c) := by
  have h : ∀ c : Nat, ∃ q : ClassId × (Nat → Nat), c < 9 → u_Kn s (hg_C c) (hg_Tb c) (hg_N c) q.1 q.2 := by
    intro c
    by_cases hc : c < 9
    · obtain ⟨cC, iS, h⟩ := u_known hts (hg_lay hc) (hts _ (hy_inst c hc))
      exact ⟨(cC, iS), fun _ => h⟩
    · exact ⟨((0 : Nat), fun _ => 0), fun h => absurd h hc⟩
  obtain ⟨f, hf⟩ := Classical.axiomOfChoice h
  refine ⟨fun c => (f c).1, fun c => (f c).2, fun c q hq => ?_⟩
  have hc : c < 9 := by
    have := (List.getElem?_eq_some_iff.mp hq).1
    simpa [hg_cls] using this
  rw [hg_cls_at hc] at hq
  cases hq
  exact hf c hc
theorem hy_tys {args : Array Value} {s : State} (hts : ∀ w ∈ lw_tbl, w.before args s = true) : ∃ cA : Nat → ClassId, ∀ (k : Nat) (q : ClassId × FieldType), ((List.range 6).map fun t => (cA t, hg_fty t))[k]? = some q → ArrOfT s q.1 q.2 ∧ va_RA s q.1 q.2 := by
  have hw : ∀ (i : Nat) (w : Cond), tables_1[i]? = some w → w.before args s = true := fun i w h => hts w (List.mem_append_right _ (List.mem_of_getElem? h))
  obtain ⟨a0, e0, f0⟩ := hy_arr (hw 44 (.arrayClass .int) (by decide +kernel))
  obtain ⟨a1, e1, f1⟩ := hy_arr (hw 74 (.arrayClass .byte) (by decide +kernel))
  obtain ⟨a2, e2, f2⟩ := hy_arr (hw 895 (.arrayClass .boolean) (by decide +kernel))
  obtain ⟨a3, e3, f3⟩ := hy_arr (hw 228 (.arrayClass .long) (by decide +kernel))
  obtain ⟨a4, e4, f4⟩ := hy_obj (hw 126 (.arrayOver (.object "HangmanDinner$House")) (by decide +kernel))
  obtain ⟨a5, e5, f5⟩ := hy_obj (hw 100 (.arrayOver (.object "HangmanDinner$Tape")) (by decide +kernel))
  refine ⟨fun t => match t with | 0 => a0 | 1 => a1 | 2 => a2 | 3 => a3 | 4 => a4 | _ => a5, fun k q hq => ?_⟩
  have hk : k < 6 := by
    have := (List.getElem?_eq_some_iff.mp hq).1
    simpa using this
  match k, hk with
  | 0, _ => cases hq; exact ⟨e0, f0⟩
  | 1, _ => cases hq; exact ⟨e1, f1⟩
  | 2, _ => cases hq; exact ⟨e2, f2⟩
  | 3, _ => cases hq; exact ⟨e3, f3⟩
  | 4, _ => cases hq; exact ⟨e4, f4⟩
  | 5, _ => cases hq; exact ⟨e5, f5⟩
abbrev hy_G : List Cond := flatC (Cond.and given_1 narrow_1)
def hy_s (i : Nat) : Term := .string "HangmanDinner$Reader" (([45, 56, 58, 77, 85] : List Nat).getD i 0)
abbrev hy_v (i : Nat) : Term := .field (hy_s i) "java/lang/String" "value" "[B"
abbrev hy_B : Term := .static "HangmanDinner$Talk" "BODIES" "[I"
abbrev hy_A : Term := .static "HangmanDinner$Talk" "ABOVE" "[I"
theorem hy_g1 : ∀ i, i < 5 → Cond.exactly (hy_s i) "java/lang/String" ∈ hy_G := by decide +kernel
theorem hy_g2 : ∀ i, i < 5 → Cond.eq (.field (hy_s i) "java/lang/String" "coder" "B") (.int 0) ∈ hy_G := by decide +kernel
theorem hy_g3 : ∀ i, i < 5 → Cond.arrayOf (hy_v i) .byte ∈ hy_G := by decide +kernel
theorem hy_g4 : ∀ i, i < 5 → Cond.eq (.length (hy_v i)) (.int (Int32.ofNat (hg_sn.getD i 0))) ∈ hy_G := by decide +kernel
theorem hy_g5 : ∀ i, i < 5 → ∀ j, j < hg_sn.getD i 0 → Cond.eq (.elem (hy_v i) (.int (Int32.ofNat j))) (.int ((hg_sb.getD i []).getD j 0)) ∈ hy_G := by decide +kernel
theorem hy_g6 : ∀ i, i < 5 → ∀ j, j < 5 → i < j → Cond.not (.eq (hy_s i) (hy_s j)) ∈ hy_G := by decide +kernel
theorem hy_g7 : Cond.arrayOf hy_B .int ∈ hy_G ∧ Cond.eq (.length hy_B) (.int (Int32.ofNat 21)) ∈ hy_G ∧ Cond.arrayOf hy_A .int ∈ hy_G ∧ Cond.eq (.length hy_A) (.int (Int32.ofNat 7)) ∈ hy_G := by decide +kernel
theorem hy_g8 : ∀ j, j < 21 → Cond.eq (.elem hy_B (.int (Int32.ofNat j))) (.int (hg_fB j)) ∈ hy_G := by decide +kernel
theorem hy_g9 : ∀ j, j < 7 → Cond.eq (.elem hy_A (.int (Int32.ofNat j))) (.int (hg_fA j)) ∈ hy_G := by decide +kernel
theorem hy_g10 : Cond.eq (.static "java/lang/String" "COMPACT_STRINGS" "Z") (.int 1) ∈ hy_G ∧ Cond.isRef (.static "jdk/internal/util/Preconditions" "SIOOBE_FORMATTER" "Ljava/util/function/BiFunction;") ∈ hy_G := by decide +kernel
def hy_m (i : Nat) : Term := .string "HangmanDinnerModel" (([206, 198, 204, 167, 172] : List Nat).getD i 0)
theorem hy_g11 : ∀ i, i < 5 → Cond.eq (hy_s i) (hy_m i) ∈ hy_G := by decide +kernel
def hy_x (b tA tB : Nat) (fK fV : Nat → Nat) : Nat → Nat := fun n => if n = 0 then b else if n = 1 then tA else if n = 2 then tB else if n < 20 then fK (n - 10) else fV (n - 20)
theorem hy_xK {b tA tB : Nat} {fK fV : Nat → Nat} {i : Nat} (h : i < 5) : hy_x b tA tB fK fV (10 + i) = fK i := by
  unfold hy_x
  rw [if_neg (by omega), if_neg (by omega), if_neg (by omega), if_pos (by omega), Nat.add_sub_cancel_left]
theorem hy_xV {b tA tB : Nat} {fK fV : Nat → Nat} {i : Nat} (h : i < 5) : hy_x b tA tB fK fV (20 + i) = fV i := by
  unfold hy_x
  rw [if_neg (by omega), if_neg (by omega), if_neg (by omega), if_neg (by omega), Nat.add_sub_cancel_left]
theorem hy_kn {s : State} {b L : Nat} {xs : Nat → Int32} (hts : ∀ w ∈ lw_tbl, w.before #[Value.ref b] s = true) (hX : va_X b L xs s s.heap) (hbl : b < s.heap.size) (hgv : (Jvm.Cond.and given_1 narrow_1).before #[Value.ref b] s = true) : ∃ E : hg_E, hg_kn E s ∧ hg_z E = s.heap.size ∧ hg_ex E 0 = b ∧ E.2.2.2.2.2.1 = L := by
  have hw : ∀ (i : Nat) (w : Cond), tables_1[i]? = some w → w.before #[Value.ref b] s = true := fun i w h => hts w (List.mem_append_right _ (List.mem_of_getElem? h))
  have hs : ∀ c ∈ hy_G, c.before #[Value.ref b] s = true := flat_of_before _ hgv
  obtain ⟨dC, dI, hC⟩ := hy_cls (fun w h => hts w (List.mem_filter.mp h).1)
  obtain ⟨cA, hT⟩ := hy_tys hts
  have hA : ∀ a : Nat, a < s.heap.size → ¬ (fun q : Nat => s.heap.size ≤ q) a := fun a h => Nat.not_le.mpr h
  obtain ⟨tB, vB, TB⟩ := va_Tof (tm := hy_B) (ty := .int) (N := 21) (f := fun j => .int (hg_fB j)) (by decide) (hs _ hy_g7.1) (va_eqt (hs _ hy_g7.2.1)) (fun j hj => va_eqt (hs _ (hy_g8 j hj))) hA
  obtain ⟨tA, vA, TA⟩ := va_Tof (tm := hy_A) (ty := .int) (N := 7) (f := fun j => .int (hg_fA j)) (by decide) (hs _ hy_g7.2.2.1) (va_eqt (hs _ hy_g7.2.2.2)) (fun j hj => va_eqt (hs _ (hy_g9 j hj))) hA
  obtain ⟨fK, fV, hS, hev⟩ := vk_Sof (N := 5) (tm := hy_s) (len := hg_sn) (byt := hg_sb) (by decide) (fun i hi => hs _ (hy_g1 i hi)) (fun i hi => hs _ (hy_g2 i hi)) (fun i hi => hs _ (hy_g3 i hi)) (fun i hi => hs _ (hy_g4 i hi)) (fun i hi j hj => hs _ (hy_g5 i hi j hj)) (fun i j hi hj hij => by
    rcases Nat.lt_or_gt_of_ne hij with q | q
    · exact Or.inl (hs _ (hy_g6 i hi j hj q))
    · exact Or.inr (hs _ (hy_g6 j hj i hi q))) hA
  have hem : ∀ i, i < 5 → (hy_m i).eval #[Value.ref b] s none [] s = some (.ref (fK i)) := fun i hi => va_eqR (hs _ (hy_g11 i hi)) (hev i hi)
  refine ⟨(dC, dI, cA, s.heap.size, hy_x b tA tB fK fV, L, xs), ⟨⟨hC, hT⟩, va_AO.of (hw 126 _ (by decide +kernel)), va_AO.of (hw 100 _ (by decide +kernel)), ?_, ?_, ?_⟩, rfl, rfl, rfl⟩
  · intro q hq
    simp only [hg_nl, List.mem_cons, List.not_mem_nil, or_false] at hq
    rcases hq with rfl | rfl | rfl | rfl
    · exact va_Nw.of rfl (hw 47 _ (by decide +kernel))
    · exact va_Nw.of rfl (hw 77 _ (by decide +kernel))
    · exact va_Nw.of rfl (hw 212 _ (by decide +kernel))
    · exact va_Nw.of rfl (hw 128 _ (by decide +kernel))
  · intro q hq
    simp only [hg_sl, List.mem_cons, List.not_mem_nil, or_false] at hq
    rcases hq with rfl | rfl | rfl | rfl | rfl | rfl | rfl | rfl | rfl | rfl
    · exact vk_R.of (hw 394 _ (by decide +kernel)) (hev 0 (by decide))
    · exact vk_R.of (hw 455 _ (by decide +kernel)) (hev 1 (by decide))
    · exact vk_R.of (hw 456 _ (by decide +kernel)) (hev 2 (by decide))
    · exact vk_R.of (hw 473 _ (by decide +kernel)) (hev 3 (by decide))
    · exact vk_R.of (hw 531 _ (by decide +kernel)) (hev 4 (by decide))
    · exact vk_R.of (hw 1015 _ (by decide +kernel)) (hem 0 (by decide))
    · exact vk_R.of (hw 1003 _ (by decide +kernel)) (hem 1 (by decide))
    · exact vk_R.of (hw 1014 _ (by decide +kernel)) (hem 2 (by decide))
    · exact vk_R.of (hw 1048 _ (by decide +kernel)) (hem 3 (by decide))
    · exact vk_R.of (hw 1050 _ (by decide +kernel)) (hem 4 (by decide))
  · obtain ⟨scr, g1, g2, g3, g4, g5⟩ := hX
    refine ⟨⟨scr, g1, g2, g3, Nat.le_of_eq g4.symm, congrArg Int32.ofNat g4, g5, hA b hbl⟩, va_Zref (hw 694 _ (by decide +kernel)) (hw 4 _ (by decide +kernel)) vA hA, TA, va_Zref (hw 688 _ (by decide +kernel)) (hw 4 _ (by decide +kernel)) vB hA, TB, va_Zof (hw 408 _ (by decide +kernel)) (hw 12 _ (by decide +kernel)) (va_eqi (hs _ hy_g10.1)) hA, va_Zqof (hw 424 _ (by decide +kernel)) (hw 14 _ (by decide +kernel)) (hs _ hy_g10.2) hA, ?_⟩
    refine ⟨fun i hi => ?_, fun i j hi hj e => hS.2 i j hi hj ?_⟩
    · have e1 : hg_ex (dC, dI, cA, s.heap.size, hy_x b tA tB fK fV, L, xs) (10 + i) = fK i := hy_xK hi
      have e2 : hg_ex (dC, dI, cA, s.heap.size, hy_x b tA tB fK fV, L, xs) (20 + i) = fV i := hy_xV hi
      simp only [e1, e2]
      exact hS.1 i hi
    · exact (hy_xK hi).symm.trans ((show hy_x b tA tB fK fV (10 + i) = hy_x b tA tB fK fV (10 + j) from e).trans (hy_xK hj))
theorem hy_rep {E : hg_E} {H : Heap} (hz : hg_z E = H.size) : hg_rep E (hZ0, hL0, hN0, hxc 0) H := by
  have h0 : ∀ k, hxn 0 k = 0 := fun k => by unfold hxn; rw [List.filter_eq_nil_iff.mpr (fun i _ => by simp)]; rfl
  refine ⟨by rw [hz]; rfl, fun k => ?_, fun k i hi => ?_⟩
  · show hxn 0 k ≤ _
    rw [h0]; exact Nat.zero_le _
  · have hi : i < hxn 0 k := hi
    rw [h0] at hi
    exact absurd hi (Nat.not_lt_zero _)
