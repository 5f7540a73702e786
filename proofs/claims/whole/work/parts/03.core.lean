/-! one memory for all; a row an instruction: by wip/whole/gen_core.py -/
-- the memory that all methods share, and what it is on the machine's heap
abbrev hg_E : Type := (Nat → ClassId) × (Nat → Nat → Nat) × (Nat → ClassId) × Nat × (Nat → Nat) × Nat × (Nat → Int32)
abbrev hg_M : Type := (Nat → Nat → Nat → Int32) × (Nat → Nat → Nat → Int64) × (Nat → Nat → Nat → Option (Nat × Nat)) × Nat × (Nat → Nat) × (Nat → Nat → Nat)
abbrev hg_z (E : hg_E) : Nat := E.2.2.2.1
abbrev hg_ex (E : hg_E) : Nat → Nat := E.2.2.2.2.1
abbrev hg_cA (E : hg_E) : Nat → ClassId := E.2.2.1
abbrev hg_nx (M : hg_M) : Nat := M.2.2.2.1
abbrev hg_ct (M : hg_M) : Nat → Nat := M.2.2.2.2.1
abbrev hg_ln (M : hg_M) : Nat → Nat → Nat := M.2.2.2.2.2
def hg_cl (k : Nat) : Option Nat := match k with
  | 0 => some 7 | 1 => some 3 | 3 => some 0 | 7 => some 2 | 10 => some 1 | 13 => some 4 | 16 => some 5 | 19 => some 6 | 21 => some 8 | _ => none
def hg_ty (k : Nat) : Nat := match k with
  | 2 => 4 | 11 => 1 | 15 => 5 | 17 => 3 | 23 => 3 | 24 => 2 | _ => 0
def hg_cap (k : Nat) : Nat := ([1, 3, 3, 18, 18, 3, 3, 6, 6, 6, 1, 1, 1, 1, 1, 1, 6, 6, 1, 7, 7, 1, 28, 1, 1, 1] : List Nat).getD k 0
/-- which cell it is, counted from the run's first -/
def hg_sq (k i : Nat) : Nat := match k with
  | 0 => 0 + i | 1 => 29 + 16 * i | 2 => 30 + 16 * i | 3 => 33 + 16 * (i / 6) + 2 * (i % 6) | 4 => 34 + 16 * (i / 6) + 2 * (i % 6) | 5 => 31 + 16 * i | 6 => 32 + 16 * i
  | 7 => 1 + 3 * i | 8 => 2 + 3 * i | 9 => 3 + 3 * i | 10 => 19 + i | 11 => 20 + i | 12 => 21 + i | 13 => 22 + i | 14 => 23 + i | 15 => 24 + i | 16 => 77 + 2 * i | 17 => 78 + 2 * i | 18 => 25 + i
  | 19 => if i = 0 then 26 else 118 + 2 * i | 20 => if i = 0 then 28 else 119 + 2 * i | 21 => 89 + i | 22 => if i < 16 then 90 + i else 91 + i | 23 => 119 + i | 24 => 106 + i | 25 => 27 + i | _ => 0
def hg_all : List (Nat × Nat) := (List.range 26).flatMap fun k => (List.range (hg_cap k)).map fun i => (k, i)
def hg_inv (q : Nat) : Nat × Nat := (hg_all.find? (fun x => hg_sq x.1 x.2 == q)).getD (0, 0)
theorem hg_inv_ok : ∀ k, k < 26 → ∀ i, i < 28 → i < hg_cap k → hg_inv (hg_sq k i) = (k, i) := by decide +kernel
theorem hg_cap_le : ∀ k, k < 26 → hg_cap k ≤ 28 := by decide +kernel
theorem hg_cap_26 {k i : Nat} (h : i < hg_cap k) : k < 26 := by
  rcases Nat.lt_or_ge k 26 with q | q
  · exact q
  · have e : hg_cap k = 0 := by
      unfold hg_cap
      rw [List.getD_eq_getElem?_getD, List.getElem?_eq_none (by simpa using q)]
      rfl
    rw [e] at h
    exact absurd h (Nat.not_lt_zero _)
theorem hg_sq_inj {k i k' i' : Nat} (h : i < hg_cap k) (h' : i' < hg_cap k') (e : hg_sq k i = hg_sq k' i') : k = k' ∧ i = i' := by
  have a := hg_inv_ok k (hg_cap_26 h) i (Nat.lt_of_lt_of_le h (hg_cap_le k (hg_cap_26 h))) h
  have b := hg_inv_ok k' (hg_cap_26 h') i' (Nat.lt_of_lt_of_le h' (hg_cap_le k' (hg_cap_26 h'))) h'
  rw [e, b] at a
  exact ⟨(Prod.mk.inj a).1.symm, (Prod.mk.inj a).2.symm⟩
def hg_fty (t : Nat) : FieldType := match t with
  | 0 => .int | 1 => .byte | 2 => .boolean | 3 => .long | 4 => .object "HangmanDinner$House" | _ => .object "HangmanDinner$Tape"
def hg_isR : FieldType → Bool
  | .int => false
  | .boolean => false
  | _ => true
def hg_ad (E : hg_E) (k i : Nat) : Nat := hg_z E + hg_sq k i
def hg_rv (E : hg_E) : Option (Nat × Nat) → Value
  | none => .null
  | some q => .ref (hg_ad E q.1 q.2)
def hg_fv (E : hg_E) (M : hg_M) (k i c j : Nat) : Value := if hg_isR (hg_tt c j) = true then hg_rv E (M.2.2.1 k i j) else .int (M.1 k i j)
def hg_av (E : hg_E) (M : hg_M) (k i j : Nat) : Value := if hg_ty k ≤ 2 then .int (M.1 k i j) else if hg_ty k = 3 then .long (M.2.1 k i j) else hg_rv E (M.2.2.1 k i j)
def hg_cell (E : hg_E) (M : hg_M) (k i : Nat) (H : Heap) : Prop := match hg_cl k with
  | some c => t_OB (hg_ad E k i) (E.1 c) (hg_N c) (E.2.1 c) H (hg_fv E M k i c)
  | none => H[hg_ad E k i]? = some (arrV (hg_cA E (hg_ty k)) (hg_ln M k i) (hg_av E M k i))
def hg_rep (E : hg_E) (M : hg_M) (H : Heap) : Prop := H.size = hg_z E + hg_nx M ∧ (∀ k, hg_ct M k ≤ hg_cap k) ∧ ∀ k i, i < hg_ct M k → hg_cell E M k i H
def hg_A (E : hg_E) : Nat → Prop := fun q => hg_z E ≤ q
def hg_tys (E : hg_E) : List (ClassId × FieldType) := (List.range 6).map fun t => (hg_cA E t, hg_fty t)
theorem hg_tys_at (E : hg_E) {t : Nat} (h : t < 6) : (hg_tys E)[t]? = some (hg_cA E t, hg_fty t) := by simp [hg_tys, h]
-- what lies outside
def hg_fA (j : Nat) : Int32 := ([-1, 0, 0, 0, 1, 2, 3] : List Int32).getD j 0
def hg_fB (j : Nat) : Int32 := ([10, 11, 12, 0, 20, 0, 30, 0, 0, 0, 0, 40, 50, 51, 0, 0, 0, 60, 71, 70, 0] : List Int32).getD j 0
def hg_sb : List (List Int32) := [[105, 108, 108, 32], [102, 101, 97, 114, 32], [101, 97, 115, 101, 32], [112, 107, 118, 111, 100, 119], [60, 61, 62]]
def hg_sn : List Nat := [4, 5, 5, 6, 3]
def hg_sl : List (String × Nat × String × Nat) := [("HangmanDinner$Reader", 45, "ill ", 0), ("HangmanDinner$Reader", 56, "fear ", 1), ("HangmanDinner$Reader", 58, "ease ", 2), ("HangmanDinner$Reader", 77, "pkvodw", 3), ("HangmanDinner$Reader", 85, "<=>", 4), ("HangmanDinnerModel", 206, "ill ", 0), ("HangmanDinnerModel", 198, "fear ", 1), ("HangmanDinnerModel", 204, "ease ", 2), ("HangmanDinnerModel", 167, "pkvodw", 3), ("HangmanDinnerModel", 172, "<=>", 4)]
def hg_nl : List (String × Nat × MethodName × String) := [("HangmanDinner", 37, Y_R_init.1, "HangmanDinner"), ("HangmanDinner", 44, Y_T_init.1, "HangmanDinner"), ("HangmanDinner", 79, Y_P_init.1, "HangmanDinner"), ("HangmanDinner$Scene", 28, Y_H_init.1, "HangmanDinner")]
def hg_ext (E : hg_E) (U : State) (H : Heap) : Prop :=
  va_T .int (hg_ex E 0) E.2.2.2.2.2.1 (fun j => .int (E.2.2.2.2.2.2 j)) (hg_A E) U H ∧ va_Z "HangmanDinner$Talk" "ABOVE" "[I" (.ref (hg_ex E 1)) (hg_A E) U H ∧ va_T .int (hg_ex E 1) 7 (fun j => .int (hg_fA j)) (hg_A E) U H ∧
  va_Z "HangmanDinner$Talk" "BODIES" "[I" (.ref (hg_ex E 2)) (hg_A E) U H ∧ va_T .int (hg_ex E 2) 21 (fun j => .int (hg_fB j)) (hg_A E) U H ∧ va_Z "java/lang/String" "COMPACT_STRINGS" "Z" (.int 1) (hg_A E) U H ∧
  va_Zq "jdk/internal/util/Preconditions" "SIOOBE_FORMATTER" "Ljava/util/function/BiFunction;" (hg_A E) U H ∧ vk_S 5 hg_sn hg_sb (fun i => hg_ex E (10 + i)) (fun i => hg_ex E (20 + i)) (hg_A E) U H
def hg_kn (E : hg_E) (U : State) : Prop :=
  va_K (E.1, E.2.1) hg_cls (hg_tys E) U ∧ va_AO "HangmanDinner$House" U ∧ va_AO "HangmanDinner$Tape" U ∧ (∀ q ∈ hg_nl, va_Nw (.methodLinkNest q.1 q.2.1 q.2.2.1 q.2.2.2) U) ∧ (∀ q ∈ hg_sl, vk_R q.1 q.2.1 q.2.2.1 (hg_ex E (10 + q.2.2.2)) U) ∧ hg_ext E U U.heap
theorem hg_ext.to {E : hg_E} {u U : State} {H H1 : Heap} (h : hg_ext E u H) (hvm : u.vm.Alike U.vm) (hq : ∀ a : Nat, a < H.size → ¬ hg_A E a → H1[a]? = H[a]?) : hg_ext E U H1 := by
  obtain ⟨h1, h2, h3, h4, h5, h6, h7, h8⟩ := h
  exact ⟨(h1.moved hvm).kept hq, (h2.moved hvm).kept hq, (h3.moved hvm).kept hq, (h4.moved hvm).kept hq, (h5.moved hvm).kept hq, (h6.moved hvm).kept hq, (h7.moved hvm).kept hq, (h8.moved hvm).kept hq⟩
theorem hg_kn.to {E : hg_E} {s U : State} {H : Heap} {locs : List Loc} (h : hg_kn E s) (hS : va_S (hg_A E) s.heap H locs) (hU : U.heap = H) (hW : s.WarmedH U.vm) : hg_kn E U := by
  obtain ⟨h1, h2, h3, h4, h5, h6⟩ := h
  have hv := hW.alike
  refine ⟨va_K.moved hv h1, h2.moved hv, h3.moved hv, fun q hq => va_Nw.warmM hW (h4 q hq), fun q hq => vk_R.warm hW (h5 q hq), h6.to hv (fun a ha hn => ?_)⟩
  rw [hU]
  exact hS.2.1 a ha hn
theorem hg_kn.blind {E : hg_E} {U : State} {g : JFrame} {mk : MethodId} {a : Array Value} (h : hg_kn E U) : hg_kn E (U.calling g mk a) := by
  obtain ⟨h1, h2, h3, h4, h5, h6⟩ := h
  have hv : U.vm.Alike (U.calling g mk a).vm := Vm.Alike.refl U.vm
  exact ⟨va_K.moved hv h1, h2.moved hv, h3.moved hv, fun q hq => va_Nw.same rfl rfl (h4 q hq), fun q hq => vk_R.same rfl (h5 q hq), h6.to hv (fun a ha hn => rfl)⟩
-- the judgement
def hg_dc (Y : hg_Y) (pc : Nat) := decode Y.2.1 pc
/-- at pc stands i, n bytes long, and pc' is behind it -/
def hg_D (Y : hg_Y) (pc pc' n : Nat) (i : Instr) : Prop := decode Y.2.1 pc = .ok (i, n) ∧ pc + n = pc'
def hg_fix (p : Program) (Y : hg_Y) (s : State) (m : MethodId) (args : Array Value) (meth : Method) (c : Code) : Prop :=
  p.tables.exec = Jvm.exec ∧ c.code = Y.2.1 ∧ c.maxLocals = Y.2.2.1 ∧ s.vm.findClass Y.1.cls = some m.cls ∧ (∀ w ∈ hg_T, w.before args s = true) ∧ (Y.1.name = "<init>" → meth.name = "<init>")
def hg_lok (ls : Array Slot) (n : Nat) (loc : List (Option Value)) : Prop := loc.length = n ∧ ∃ lv, lv_has ls n lv ∧ ∀ i v, loc[i]? = some (some v) → (i, v) ∈ lv
def hg_ret (Y : hg_Y) (pc : Nat) (r : Option Value) : Prop :=
  (∃ (v : Int32) (ty : FieldType), r = some (.int v) ∧ decode Y.2.1 pc = .ok (.ireturn, 1) ∧ Y.2.2.2 = some ty ∧ narrow ty (.int v) = .int v) ∨
  (∃ v : Int64, r = some (.long v) ∧ decode Y.2.1 pc = .ok (.lreturn, 1) ∧ Y.2.2.2 = some .long) ∨
  (r = none ∧ decode Y.2.1 pc = .ok (.return_, 1) ∧ Y.2.2.2 = none) ∨
  (∃ (v : Value) (rt : FieldType), r = some v ∧ (v = .null ∨ ∃ a, v = .ref a) ∧ decode Y.2.1 pc = .ok (.areturn, 1) ∧ Y.2.2.2 = some rt ∧ ((∃ n, rt = .object n) ∨ ∃ t, rt = .array t))
def hg_WP (l : Launch) (E : hg_E) (d : Nat) (Y : hg_Y) (mc ms : Nat) (pc : Nat) (loc : List (Option Value)) (st : List Value) (M : hg_M) (Q : Option Value → hg_M → Prop) : Prop :=
  ∀ (p : Program) (e : Env) (R : Room) (s : State) (m : MethodId) (args : Array Value) (below : List Frame) (meth : Method) (c : Code) (H : Heap) (locs : List Loc) (cells slots : Nat) (Z : State → Prop) (ls : Array Slot),
    hg_fix p Y s m args meth c → hg_kn E s → (d + 1 ≤ R.frames ∧ 40 * (d + 1) ≤ R.locals ∧ cells + mc ≤ R.cells ∧ slots + ms ≤ R.slots) → hg_rep E M H → va_S (hg_A E) s.heap H locs → hg_lok ls Y.2.2.1 loc → hg_z E ≤ s.heap.size →
    (∀ (pc : Nat) (ls : Array Slot) (H : Heap) (locs : List Loc) (cells' slots' : Nat) (r : Option Value) (M' : hg_M), Q r M' → hg_ret Y pc r → hg_rep E M' H → va_S (hg_A E) s.heap H locs → cells' ≤ cells + mc → slots' ≤ slots + ms → W p l e R s m args below meth c H locs cells' slots' Z (F0 m pc ls r.toList)) →
    W p l e R s m args below meth c H locs cells slots Z (F0 m pc ls st)
def hg_Q (E : hg_E) (Q : Option Value → hg_M → Prop) : Array Value → State → Outcome → State → Prop := fun _ st o t => (∃ (r : Option Value) (M' : hg_M), o = .returned r ∧ Q r M' ∧ hg_rep E M' t.heap) ∧ va_F (hg_A E) st t
def hg_MC (l : Launch) (E : hg_E) (d : Nat) (Y : hg_Y) (mc ms : Nat) (as : List Value) (M : hg_M) (Q : Option Value → hg_M → Prop) : Prop :=
  Met l Y.1 (hg_yw Y :: hg_T) ({ frames := d, cells := mc, slots := ms, locals := 40 * d } : Room) (va_Pc as (fun U => hg_rep E M U.heap ∧ hg_kn E U ∧ hg_z E ≤ U.heap.size)) (hg_Q E Q) mc ms (hg_A E)
def hg_i (P : Int32 → hg_M → Prop) : Option Value → hg_M → Prop := fun r M' => ∃ v : Int32, r = some (.int v) ∧ P v M'
def hg_l (P : Int64 → hg_M → Prop) : Option Value → hg_M → Prop := fun r M' => ∃ v : Int64, r = some (.long v) ∧ P v M'
def hg_v (P : hg_M → Prop) : Option Value → hg_M → Prop := fun r M' => r = none ∧ P M'
def hg_r (E : hg_E) (P : Option (Nat × Nat) → hg_M → Prop) : Option Value → hg_M → Prop := fun r M' => ∃ q, r = some (hg_rv E q) ∧ P q M'
/-- the locals at a method's start -/
def hg_lo (n : Nat) : List Value → List (Option Value)
  | [] => List.replicate n none
  | v :: vs => if v.category = 2 then some v :: none :: hg_lo (n - 2) vs else some v :: hg_lo (n - 1) vs
theorem hg_lo_in : ∀ (vs : List Value) (n k i : Nat) (v : Value), (hg_lo n vs)[i]? = some (some v) → (k + i, v) ∈ lv_args k vs
  | [], n, k, i, v, h => by
    exfalso
    unfold hg_lo at h
    rw [List.getElem?_replicate] at h
    split at h <;> cases h
  | w :: vs, n, k, i, v, h => by
    unfold hg_lo at h
    unfold lv_args
    split at h
    · rename_i hc
      match i, h with
      | 0, h => cases h; simp
      | 1, h => cases h
      | i + 2, h =>
        have := hg_lo_in vs (n - 2) (k + 2) i v (by simpa using h)
        rw [show k + (i + 2) = k + 2 + i by omega]
        simp [hc, this]
    · rename_i hc
      match i, h with
      | 0, h => cases h; simp
      | i + 1, h =>
        have hc1 : w.category = 1 := by rcases lv_cat w with q | q <;> omega
        have := hg_lo_in vs (n - 1) (k + 1) i v (by simpa using h)
        rw [show k + (i + 1) = k + 1 + i by omega]
        simp [hc1, this]
theorem hg_lo_len : ∀ (vs : List Value) (n : Nat), (lg_sl vs).length ≤ n → (hg_lo n vs).length = n
  | [], n, _ => by simp [hg_lo]
  | w :: vs, n, h => by
    have e : (lg_sl (w :: vs)).length = w.category + (lg_sl vs).length := by
      rcases lv_cat w with q | q <;> simp [lg_sl, q] <;> omega
    rw [e] at h
    unfold hg_lo
    split
    · rename_i hc
      have := hg_lo_len vs (n - 2) (by omega)
      simp only [List.length_cons, this]
      omega
    · rename_i hc
      have hc1 : w.category = 1 := by rcases lv_cat w with q | q <;> omega
      have := hg_lo_len vs (n - 1) (by omega)
      simp only [List.length_cons, this]
      omega
section HG
variable {l : Launch} {E : hg_E} {d : Nat} {Y : hg_Y} {mc ms pc pc' : Nat} {loc : List (Option Value)} {st : List Value} {M : hg_M} {Q : Option Value → hg_M → Prop}
theorem hg_iconst {n : Int} {v : Int32} (hd : hg_D Y pc pc' 1 (.iconst n)) (hv : Int32.ofInt n = v) (k : hg_WP l E d Y mc ms pc' loc (.int v :: st) M Q) : hg_WP l E d Y mc ms pc loc (st) M Q := by
  intro p e R s m args below meth c H locs cells slots Z ls hF hK hR hP hS hL hz hret
  obtain ⟨hd, rfl⟩ := hd
  exact lv_iconst hF.1 hF.2.1 hd hv (k p e R s m args below meth c H locs cells slots Z ls hF hK hR hP hS hL hz hret)
theorem hg_bipush {n : Int} {v : Int32} (hd : hg_D Y pc pc' 2 (.bipush n)) (hv : (Int8.ofInt n).toInt32 = v) (k : hg_WP l E d Y mc ms pc' loc (.int v :: st) M Q) : hg_WP l E d Y mc ms pc loc (st) M Q := by
  intro p e R s m args below meth c H locs cells slots Z ls hF hK hR hP hS hL hz hret
  obtain ⟨hd, rfl⟩ := hd
  exact lv_bipush hF.1 hF.2.1 hd hv (k p e R s m args below meth c H locs cells slots Z ls hF hK hR hP hS hL hz hret)
theorem hg_sipush {n : Int} {v : Int32} (hd : hg_D Y pc pc' 3 (.sipush n)) (hv : (Int16.ofInt n).toInt32 = v) (k : hg_WP l E d Y mc ms pc' loc (.int v :: st) M Q) : hg_WP l E d Y mc ms pc loc (st) M Q := by
  intro p e R s m args below meth c H locs cells slots Z ls hF hK hR hP hS hL hz hret
  obtain ⟨hd, rfl⟩ := hd
  exact lv_sipush hF.1 hF.2.1 hd hv (k p e R s m args below meth c H locs cells slots Z ls hF hK hR hP hS hL hz hret)
theorem hg_lconst {n : Fin 2} {v : Int64} (hd : hg_D Y pc pc' 1 (.lconst n)) (hv : Int64.ofNat (n : Nat) = v) (k : hg_WP l E d Y mc ms pc' loc (.long v :: st) M Q) : hg_WP l E d Y mc ms pc loc (st) M Q := by
  intro p e R s m args below meth c H locs cells slots Z ls hF hK hR hP hS hL hz hret
  obtain ⟨hd, rfl⟩ := hd
  exact lv_lconst hF.1 hF.2.1 hd hv (k p e R s m args below meth c H locs cells slots Z ls hF hK hR hP hS hL hz hret)
theorem hg_ldc2 {n : Nat} {v : Int64} (hd : hg_D Y pc pc' 3 (.ldc2_w n)) (hv : Cond.constantLong Y.1.cls n v ∈ hg_T) (k : hg_WP l E d Y mc ms pc' loc (.long v :: st) M Q) : hg_WP l E d Y mc ms pc loc (st) M Q := by
  intro p e R s m args below meth c H locs cells slots Z ls hF hK hR hP hS hL hz hret
  obtain ⟨hd, rfl⟩ := hd
  exact lv_ldc2 hF.1 hF.2.1 hF.2.2.2.1 (hF.2.2.2.2.1 _ hv) hd (k p e R s m args below meth c H locs cells slots Z ls hF hK hR hP hS hL hz hret)
theorem hg_null  (hd : hg_D Y pc pc' 1 .aconst_null) (k : hg_WP l E d Y mc ms pc' loc (.null :: st) M Q) : hg_WP l E d Y mc ms pc loc (st) M Q := by
  intro p e R s m args below meth c H locs cells slots Z ls hF hK hR hP hS hL hz hret
  obtain ⟨hd, rfl⟩ := hd
  exact lv_null hF.1 hF.2.1 hd (k p e R s m args below meth c H locs cells slots Z ls hF hK hR hP hS hL hz hret)
theorem hg_ldcS {n i : Nat} {tx : String} (hd : hg_D Y pc pc' 2 (.ldc n)) (hv : (Y.1.cls, n, tx, i) ∈ hg_sl) (k : hg_WP l E d Y mc ms pc' loc (.ref (hg_ex E (10 + i)) :: st) M Q) : hg_WP l E d Y mc ms pc loc (st) M Q := by
  intro p e R s m args below meth c H locs cells slots Z ls hF hK hR hP hS hL hz hret
  obtain ⟨hd, rfl⟩ := hd
  exact va_ldcS hF.1 hF.2.1 hF.2.2.2.1 (hK.2.2.2.2.1 _ hv) hd (k p e R s m args below meth c H locs cells slots Z ls hF hK hR hP hS hL hz hret)
theorem hg_iadd {x y : Int32} (hd : hg_D Y pc pc' 1 .iadd) (k : hg_WP l E d Y mc ms pc' loc (.int (x + y) :: st) M Q) : hg_WP l E d Y mc ms pc loc (.int y :: .int x :: st) M Q := by
  intro p e R s m args below meth c H locs cells slots Z ls hF hK hR hP hS hL hz hret
  obtain ⟨hd, rfl⟩ := hd
  exact lv_iadd hF.1 hF.2.1 hd (k p e R s m args below meth c H locs cells slots Z ls hF hK hR hP hS hL hz hret)
theorem hg_isub {x y : Int32} (hd : hg_D Y pc pc' 1 .isub) (k : hg_WP l E d Y mc ms pc' loc (.int (x - y) :: st) M Q) : hg_WP l E d Y mc ms pc loc (.int y :: .int x :: st) M Q := by
  intro p e R s m args below meth c H locs cells slots Z ls hF hK hR hP hS hL hz hret
  obtain ⟨hd, rfl⟩ := hd
  exact lv_isub hF.1 hF.2.1 hd (k p e R s m args below meth c H locs cells slots Z ls hF hK hR hP hS hL hz hret)
theorem hg_imul {x y : Int32} (hd : hg_D Y pc pc' 1 .imul) (k : hg_WP l E d Y mc ms pc' loc (.int (x * y) :: st) M Q) : hg_WP l E d Y mc ms pc loc (.int y :: .int x :: st) M Q := by
  intro p e R s m args below meth c H locs cells slots Z ls hF hK hR hP hS hL hz hret
  obtain ⟨hd, rfl⟩ := hd
  exact lv_imul hF.1 hF.2.1 hd (k p e R s m args below meth c H locs cells slots Z ls hF hK hR hP hS hL hz hret)
theorem hg_iand {x y : Int32} (hd : hg_D Y pc pc' 1 .iand) (k : hg_WP l E d Y mc ms pc' loc (.int (x &&& y) :: st) M Q) : hg_WP l E d Y mc ms pc loc (.int y :: .int x :: st) M Q := by
  intro p e R s m args below meth c H locs cells slots Z ls hF hK hR hP hS hL hz hret
  obtain ⟨hd, rfl⟩ := hd
  exact lv_iand hF.1 hF.2.1 hd (k p e R s m args below meth c H locs cells slots Z ls hF hK hR hP hS hL hz hret)
theorem hg_ior {x y : Int32} (hd : hg_D Y pc pc' 1 .ior) (k : hg_WP l E d Y mc ms pc' loc (.int (x ||| y) :: st) M Q) : hg_WP l E d Y mc ms pc loc (.int y :: .int x :: st) M Q := by
  intro p e R s m args below meth c H locs cells slots Z ls hF hK hR hP hS hL hz hret
  obtain ⟨hd, rfl⟩ := hd
  exact lv_ior hF.1 hF.2.1 hd (k p e R s m args below meth c H locs cells slots Z ls hF hK hR hP hS hL hz hret)
theorem hg_ixor {x y : Int32} (hd : hg_D Y pc pc' 1 .ixor) (k : hg_WP l E d Y mc ms pc' loc (.int (x ^^^ y) :: st) M Q) : hg_WP l E d Y mc ms pc loc (.int y :: .int x :: st) M Q := by
  intro p e R s m args below meth c H locs cells slots Z ls hF hK hR hP hS hL hz hret
  obtain ⟨hd, rfl⟩ := hd
  exact lv_ixor hF.1 hF.2.1 hd (k p e R s m args below meth c H locs cells slots Z ls hF hK hR hP hS hL hz hret)
theorem hg_ishl {x y : Int32} (hd : hg_D Y pc pc' 1 .ishl) (k : hg_WP l E d Y mc ms pc' loc (.int (x <<< (y &&& 31)) :: st) M Q) : hg_WP l E d Y mc ms pc loc (.int y :: .int x :: st) M Q := by
  intro p e R s m args below meth c H locs cells slots Z ls hF hK hR hP hS hL hz hret
  obtain ⟨hd, rfl⟩ := hd
  exact lv_ishl hF.1 hF.2.1 hd (k p e R s m args below meth c H locs cells slots Z ls hF hK hR hP hS hL hz hret)
theorem hg_ishr {x y : Int32} (hd : hg_D Y pc pc' 1 .ishr) (k : hg_WP l E d Y mc ms pc' loc (.int (x >>> (y &&& 31)) :: st) M Q) : hg_WP l E d Y mc ms pc loc (.int y :: .int x :: st) M Q := by
  intro p e R s m args below meth c H locs cells slots Z ls hF hK hR hP hS hL hz hret
  obtain ⟨hd, rfl⟩ := hd
  exact lv_ishr hF.1 hF.2.1 hd (k p e R s m args below meth c H locs cells slots Z ls hF hK hR hP hS hL hz hret)
theorem hg_idiv {x y : Int32} (hd : hg_D Y pc pc' 1 .idiv) (hy : ¬ y = 0) (k : hg_WP l E d Y mc ms pc' loc (.int (x / y) :: st) M Q) : hg_WP l E d Y mc ms pc loc (.int y :: .int x :: st) M Q := by
  intro p e R s m args below meth c H locs cells slots Z ls hF hK hR hP hS hL hz hret
  obtain ⟨hd, rfl⟩ := hd
  exact lv_idiv hF.1 hF.2.1 hd hy (k p e R s m args below meth c H locs cells slots Z ls hF hK hR hP hS hL hz hret)
theorem hg_irem {x y : Int32} (hd : hg_D Y pc pc' 1 .irem) (hy : ¬ y = 0) (k : hg_WP l E d Y mc ms pc' loc (.int (x - x / y * y) :: st) M Q) : hg_WP l E d Y mc ms pc loc (.int y :: .int x :: st) M Q := by
  intro p e R s m args below meth c H locs cells slots Z ls hF hK hR hP hS hL hz hret
  obtain ⟨hd, rfl⟩ := hd
  exact lv_irem hF.1 hF.2.1 hd hy (k p e R s m args below meth c H locs cells slots Z ls hF hK hR hP hS hL hz hret)
theorem hg_ineg {x : Int32} (hd : hg_D Y pc pc' 1 .ineg) (k : hg_WP l E d Y mc ms pc' loc (.int (-x) :: st) M Q) : hg_WP l E d Y mc ms pc loc (.int x :: st) M Q := by
  intro p e R s m args below meth c H locs cells slots Z ls hF hK hR hP hS hL hz hret
  obtain ⟨hd, rfl⟩ := hd
  exact lv_ineg hF.1 hF.2.1 hd (k p e R s m args below meth c H locs cells slots Z ls hF hK hR hP hS hL hz hret)
theorem hg_ladd {x y : Int64} (hd : hg_D Y pc pc' 1 .ladd) (k : hg_WP l E d Y mc ms pc' loc (.long (x + y) :: st) M Q) : hg_WP l E d Y mc ms pc loc (.long y :: .long x :: st) M Q := by
  intro p e R s m args below meth c H locs cells slots Z ls hF hK hR hP hS hL hz hret
  obtain ⟨hd, rfl⟩ := hd
  exact lv_ladd hF.1 hF.2.1 hd (k p e R s m args below meth c H locs cells slots Z ls hF hK hR hP hS hL hz hret)
theorem hg_land {x y : Int64} (hd : hg_D Y pc pc' 1 .land) (k : hg_WP l E d Y mc ms pc' loc (.long (x &&& y) :: st) M Q) : hg_WP l E d Y mc ms pc loc (.long y :: .long x :: st) M Q := by
  intro p e R s m args below meth c H locs cells slots Z ls hF hK hR hP hS hL hz hret
  obtain ⟨hd, rfl⟩ := hd
  exact lv_land hF.1 hF.2.1 hd (k p e R s m args below meth c H locs cells slots Z ls hF hK hR hP hS hL hz hret)
theorem hg_lor {x y : Int64} (hd : hg_D Y pc pc' 1 .lor) (k : hg_WP l E d Y mc ms pc' loc (.long (x ||| y) :: st) M Q) : hg_WP l E d Y mc ms pc loc (.long y :: .long x :: st) M Q := by
  intro p e R s m args below meth c H locs cells slots Z ls hF hK hR hP hS hL hz hret
  obtain ⟨hd, rfl⟩ := hd
  exact lv_lor hF.1 hF.2.1 hd (k p e R s m args below meth c H locs cells slots Z ls hF hK hR hP hS hL hz hret)
theorem hg_ldiv {x y : Int64} (hd : hg_D Y pc pc' 1 .ldiv) (hy : ¬ y = 0) (k : hg_WP l E d Y mc ms pc' loc (.long (x / y) :: st) M Q) : hg_WP l E d Y mc ms pc loc (.long y :: .long x :: st) M Q := by
  intro p e R s m args below meth c H locs cells slots Z ls hF hK hR hP hS hL hz hret
  obtain ⟨hd, rfl⟩ := hd
  exact lv_ldiv hF.1 hF.2.1 hd hy (k p e R s m args below meth c H locs cells slots Z ls hF hK hR hP hS hL hz hret)
theorem hg_lrem {x y : Int64} (hd : hg_D Y pc pc' 1 .lrem) (hy : ¬ y = 0) (k : hg_WP l E d Y mc ms pc' loc (.long (x - x / y * y) :: st) M Q) : hg_WP l E d Y mc ms pc loc (.long y :: .long x :: st) M Q := by
  intro p e R s m args below meth c H locs cells slots Z ls hF hK hR hP hS hL hz hret
  obtain ⟨hd, rfl⟩ := hd
  exact lv_lrem hF.1 hF.2.1 hd hy (k p e R s m args below meth c H locs cells slots Z ls hF hK hR hP hS hL hz hret)
theorem hg_lshl {x : Int64} {y : Int32} (hd : hg_D Y pc pc' 1 .lshl) (k : hg_WP l E d Y mc ms pc' loc (.long (x <<< (y.toInt64 &&& 63)) :: st) M Q) : hg_WP l E d Y mc ms pc loc (.int y :: .long x :: st) M Q := by
  intro p e R s m args below meth c H locs cells slots Z ls hF hK hR hP hS hL hz hret
  obtain ⟨hd, rfl⟩ := hd
  exact lv_lshl hF.1 hF.2.1 hd rfl (k p e R s m args below meth c H locs cells slots Z ls hF hK hR hP hS hL hz hret)
theorem hg_lcmp {x y : Int64} (hd : hg_D Y pc pc' 1 .lcmp) (k : hg_WP l E d Y mc ms pc' loc (.int (lg_cmp x y) :: st) M Q) : hg_WP l E d Y mc ms pc loc (.long y :: .long x :: st) M Q := by
  intro p e R s m args below meth c H locs cells slots Z ls hF hK hR hP hS hL hz hret
  obtain ⟨hd, rfl⟩ := hd
  exact W.lcmp hF.1 hF.2.1 hd (k p e R s m args below meth c H locs cells slots Z ls hF hK hR hP hS hL hz hret)
theorem hg_i2l {x : Int32} (hd : hg_D Y pc pc' 1 .i2l) (k : hg_WP l E d Y mc ms pc' loc (.long x.toInt64 :: st) M Q) : hg_WP l E d Y mc ms pc loc (.int x :: st) M Q := by
  intro p e R s m args below meth c H locs cells slots Z ls hF hK hR hP hS hL hz hret
  obtain ⟨hd, rfl⟩ := hd
  exact lv_i2l hF.1 hF.2.1 hd rfl (k p e R s m args below meth c H locs cells slots Z ls hF hK hR hP hS hL hz hret)
theorem hg_l2i {x : Int64} (hd : hg_D Y pc pc' 1 .l2i) (k : hg_WP l E d Y mc ms pc' loc (.int x.toInt32 :: st) M Q) : hg_WP l E d Y mc ms pc loc (.long x :: st) M Q := by
  intro p e R s m args below meth c H locs cells slots Z ls hF hK hR hP hS hL hz hret
  obtain ⟨hd, rfl⟩ := hd
  exact lv_l2i hF.1 hF.2.1 hd rfl (k p e R s m args below meth c H locs cells slots Z ls hF hK hR hP hS hL hz hret)
theorem hg_i2b {x : Int32} (hd : hg_D Y pc pc' 1 .i2b) (k : hg_WP l E d Y mc ms pc' loc (.int x.toInt8.toInt32 :: st) M Q) : hg_WP l E d Y mc ms pc loc (.int x :: st) M Q := by
  intro p e R s m args below meth c H locs cells slots Z ls hF hK hR hP hS hL hz hret
  obtain ⟨hd, rfl⟩ := hd
  exact lv_i2b hF.1 hF.2.1 hd rfl (k p e R s m args below meth c H locs cells slots Z ls hF hK hR hP hS hL hz hret)
theorem hg_i2s {x : Int32} (hd : hg_D Y pc pc' 1 .i2s) (k : hg_WP l E d Y mc ms pc' loc (.int x.toInt16.toInt32 :: st) M Q) : hg_WP l E d Y mc ms pc loc (.int x :: st) M Q := by
  intro p e R s m args below meth c H locs cells slots Z ls hF hK hR hP hS hL hz hret
  obtain ⟨hd, rfl⟩ := hd
  exact lv_i2s hF.1 hF.2.1 hd rfl (k p e R s m args below meth c H locs cells slots Z ls hF hK hR hP hS hL hz hret)
theorem hg_i2c {x : Int32} (hd : hg_D Y pc pc' 1 .i2c) (k : hg_WP l E d Y mc ms pc' loc (.int (x.toUInt32 % 65536).toInt32 :: st) M Q) : hg_WP l E d Y mc ms pc loc (.int x :: st) M Q := by
  intro p e R s m args below meth c H locs cells slots Z ls hF hK hR hP hS hL hz hret
  obtain ⟨hd, rfl⟩ := hd
  exact lv_i2c hF.1 hF.2.1 hd rfl (k p e R s m args below meth c H locs cells slots Z ls hF hK hR hP hS hL hz hret)
theorem hg_dup {a : Value} (hd : hg_D Y pc pc' 1 .dup) (ha : a.category = 1) (k : hg_WP l E d Y mc ms pc' loc (a :: a :: st) M Q) : hg_WP l E d Y mc ms pc loc (a :: st) M Q := by
  intro p e R s m args below meth c H locs cells slots Z ls hF hK hR hP hS hL hz hret
  obtain ⟨hd, rfl⟩ := hd
  exact lv_dup hF.1 hF.2.1 hd ha (k p e R s m args below meth c H locs cells slots Z ls hF hK hR hP hS hL hz hret)
theorem hg_pop {a : Value} (hd : hg_D Y pc pc' 1 .pop) (ha : a.category = 1) (k : hg_WP l E d Y mc ms pc' loc (st) M Q) : hg_WP l E d Y mc ms pc loc (a :: st) M Q := by
  intro p e R s m args below meth c H locs cells slots Z ls hF hK hR hP hS hL hz hret
  obtain ⟨hd, rfl⟩ := hd
  exact lv_pop hF.1 hF.2.1 hd ha (k p e R s m args below meth c H locs cells slots Z ls hF hK hR hP hS hL hz hret)
theorem hg_dup_x1 {a b : Value} (hd : hg_D Y pc pc' 1 .dup_x1) (ha : a.category = 1) (hb : b.category = 1) (k : hg_WP l E d Y mc ms pc' loc (a :: b :: a :: st) M Q) : hg_WP l E d Y mc ms pc loc (a :: b :: st) M Q := by
  intro p e R s m args below meth c H locs cells slots Z ls hF hK hR hP hS hL hz hret
  obtain ⟨hd, rfl⟩ := hd
  exact lv_dup_x1 hF.1 hF.2.1 hd ha hb (k p e R s m args below meth c H locs cells slots Z ls hF hK hR hP hS hL hz hret)
theorem hg_dup2 {a b : Value} (hd : hg_D Y pc pc' 1 .dup2) (ha : a.category = 1) (hb : b.category = 1) (k : hg_WP l E d Y mc ms pc' loc (a :: b :: a :: b :: st) M Q) : hg_WP l E d Y mc ms pc loc (a :: b :: st) M Q := by
  intro p e R s m args below meth c H locs cells slots Z ls hF hK hR hP hS hL hz hret
  obtain ⟨hd, rfl⟩ := hd
  exact lv_dup2_11 hF.1 hF.2.1 hd ha hb (k p e R s m args below meth c H locs cells slots Z ls hF hK hR hP hS hL hz hret)
theorem hg_if_eq {x : Int32} {off : Int} {tgt : Nat} (hd : hg_D Y pc pc' 3 (.ifCond .eq off)) (ht : (pc : Int) + off = (tgt : Int)) (kt : x = 0 → hg_WP l E d Y mc ms tgt loc (st) M Q) (kf : ¬ (x = 0) → hg_WP l E d Y mc ms pc' loc (st) M Q) : hg_WP l E d Y mc ms pc loc (.int x :: st) M Q := by
  intro p e R s m args below meth c H locs cells slots Z ls hF hK hR hP hS hL hz hret
  obtain ⟨hd, rfl⟩ := hd
  exact lv_if_eq hF.1 hF.2.1 hd ht (fun q => kt q p e R s m args below meth c H locs cells slots Z ls hF hK hR hP hS hL hz hret) (fun q => kf q p e R s m args below meth c H locs cells slots Z ls hF hK hR hP hS hL hz hret)
theorem hg_icmp_eq {x y : Int32} {off : Int} {tgt : Nat} (hd : hg_D Y pc pc' 3 (.if_icmp .eq off)) (ht : (pc : Int) + off = (tgt : Int)) (kt : x = y → hg_WP l E d Y mc ms tgt loc (st) M Q) (kf : ¬ (x = y) → hg_WP l E d Y mc ms pc' loc (st) M Q) : hg_WP l E d Y mc ms pc loc (.int y :: .int x :: st) M Q := by
  intro p e R s m args below meth c H locs cells slots Z ls hF hK hR hP hS hL hz hret
  obtain ⟨hd, rfl⟩ := hd
  exact lv_icmp_eq hF.1 hF.2.1 hd ht (fun q => kt q p e R s m args below meth c H locs cells slots Z ls hF hK hR hP hS hL hz hret) (fun q => kf q p e R s m args below meth c H locs cells slots Z ls hF hK hR hP hS hL hz hret)
theorem hg_if_ne {x : Int32} {off : Int} {tgt : Nat} (hd : hg_D Y pc pc' 3 (.ifCond .ne off)) (ht : (pc : Int) + off = (tgt : Int)) (kt : ¬ x = 0 → hg_WP l E d Y mc ms tgt loc (st) M Q) (kf : ¬ (¬ x = 0) → hg_WP l E d Y mc ms pc' loc (st) M Q) : hg_WP l E d Y mc ms pc loc (.int x :: st) M Q := by
  intro p e R s m args below meth c H locs cells slots Z ls hF hK hR hP hS hL hz hret
  obtain ⟨hd, rfl⟩ := hd
  exact lv_if_ne hF.1 hF.2.1 hd ht (fun q => kt q p e R s m args below meth c H locs cells slots Z ls hF hK hR hP hS hL hz hret) (fun q => kf (fun h => h q) p e R s m args below meth c H locs cells slots Z ls hF hK hR hP hS hL hz hret)
theorem hg_icmp_ne {x y : Int32} {off : Int} {tgt : Nat} (hd : hg_D Y pc pc' 3 (.if_icmp .ne off)) (ht : (pc : Int) + off = (tgt : Int)) (kt : ¬ x = y → hg_WP l E d Y mc ms tgt loc (st) M Q) (kf : ¬ (¬ x = y) → hg_WP l E d Y mc ms pc' loc (st) M Q) : hg_WP l E d Y mc ms pc loc (.int y :: .int x :: st) M Q := by
  intro p e R s m args below meth c H locs cells slots Z ls hF hK hR hP hS hL hz hret
  obtain ⟨hd, rfl⟩ := hd
  exact lv_icmp_ne hF.1 hF.2.1 hd ht (fun q => kt q p e R s m args below meth c H locs cells slots Z ls hF hK hR hP hS hL hz hret) (fun q => kf (fun h => h q) p e R s m args below meth c H locs cells slots Z ls hF hK hR hP hS hL hz hret)
theorem hg_if_lt {x : Int32} {off : Int} {tgt : Nat} (hd : hg_D Y pc pc' 3 (.ifCond .lt off)) (ht : (pc : Int) + off = (tgt : Int)) (kt : x < 0 → hg_WP l E d Y mc ms tgt loc (st) M Q) (kf : ¬ (x < 0) → hg_WP l E d Y mc ms pc' loc (st) M Q) : hg_WP l E d Y mc ms pc loc (.int x :: st) M Q := by
  intro p e R s m args below meth c H locs cells slots Z ls hF hK hR hP hS hL hz hret
  obtain ⟨hd, rfl⟩ := hd
  exact lv_if_lt hF.1 hF.2.1 hd ht (fun q => kt q p e R s m args below meth c H locs cells slots Z ls hF hK hR hP hS hL hz hret) (fun q => kf q p e R s m args below meth c H locs cells slots Z ls hF hK hR hP hS hL hz hret)
theorem hg_icmp_lt {x y : Int32} {off : Int} {tgt : Nat} (hd : hg_D Y pc pc' 3 (.if_icmp .lt off)) (ht : (pc : Int) + off = (tgt : Int)) (kt : x < y → hg_WP l E d Y mc ms tgt loc (st) M Q) (kf : ¬ (x < y) → hg_WP l E d Y mc ms pc' loc (st) M Q) : hg_WP l E d Y mc ms pc loc (.int y :: .int x :: st) M Q := by
  intro p e R s m args below meth c H locs cells slots Z ls hF hK hR hP hS hL hz hret
  obtain ⟨hd, rfl⟩ := hd
  exact lv_icmp_lt hF.1 hF.2.1 hd ht (fun q => kt q p e R s m args below meth c H locs cells slots Z ls hF hK hR hP hS hL hz hret) (fun q => kf q p e R s m args below meth c H locs cells slots Z ls hF hK hR hP hS hL hz hret)
theorem hg_if_ge {x : Int32} {off : Int} {tgt : Nat} (hd : hg_D Y pc pc' 3 (.ifCond .ge off)) (ht : (pc : Int) + off = (tgt : Int)) (kt : 0 ≤ x → hg_WP l E d Y mc ms tgt loc (st) M Q) (kf : ¬ (0 ≤ x) → hg_WP l E d Y mc ms pc' loc (st) M Q) : hg_WP l E d Y mc ms pc loc (.int x :: st) M Q := by
  intro p e R s m args below meth c H locs cells slots Z ls hF hK hR hP hS hL hz hret
  obtain ⟨hd, rfl⟩ := hd
  exact lv_if_ge hF.1 hF.2.1 hd ht (fun q => kt q p e R s m args below meth c H locs cells slots Z ls hF hK hR hP hS hL hz hret) (fun q => kf q p e R s m args below meth c H locs cells slots Z ls hF hK hR hP hS hL hz hret)
theorem hg_icmp_ge {x y : Int32} {off : Int} {tgt : Nat} (hd : hg_D Y pc pc' 3 (.if_icmp .ge off)) (ht : (pc : Int) + off = (tgt : Int)) (kt : y ≤ x → hg_WP l E d Y mc ms tgt loc (st) M Q) (kf : ¬ (y ≤ x) → hg_WP l E d Y mc ms pc' loc (st) M Q) : hg_WP l E d Y mc ms pc loc (.int y :: .int x :: st) M Q := by
  intro p e R s m args below meth c H locs cells slots Z ls hF hK hR hP hS hL hz hret
  obtain ⟨hd, rfl⟩ := hd
  exact lv_icmp_ge hF.1 hF.2.1 hd ht (fun q => kt q p e R s m args below meth c H locs cells slots Z ls hF hK hR hP hS hL hz hret) (fun q => kf q p e R s m args below meth c H locs cells slots Z ls hF hK hR hP hS hL hz hret)
theorem hg_if_gt {x : Int32} {off : Int} {tgt : Nat} (hd : hg_D Y pc pc' 3 (.ifCond .gt off)) (ht : (pc : Int) + off = (tgt : Int)) (kt : 0 < x → hg_WP l E d Y mc ms tgt loc (st) M Q) (kf : ¬ (0 < x) → hg_WP l E d Y mc ms pc' loc (st) M Q) : hg_WP l E d Y mc ms pc loc (.int x :: st) M Q := by
  intro p e R s m args below meth c H locs cells slots Z ls hF hK hR hP hS hL hz hret
  obtain ⟨hd, rfl⟩ := hd
  exact lv_if_gt hF.1 hF.2.1 hd ht (fun q => kt q p e R s m args below meth c H locs cells slots Z ls hF hK hR hP hS hL hz hret) (fun q => kf q p e R s m args below meth c H locs cells slots Z ls hF hK hR hP hS hL hz hret)
theorem hg_icmp_gt {x y : Int32} {off : Int} {tgt : Nat} (hd : hg_D Y pc pc' 3 (.if_icmp .gt off)) (ht : (pc : Int) + off = (tgt : Int)) (kt : y < x → hg_WP l E d Y mc ms tgt loc (st) M Q) (kf : ¬ (y < x) → hg_WP l E d Y mc ms pc' loc (st) M Q) : hg_WP l E d Y mc ms pc loc (.int y :: .int x :: st) M Q := by
  intro p e R s m args below meth c H locs cells slots Z ls hF hK hR hP hS hL hz hret
  obtain ⟨hd, rfl⟩ := hd
  exact lv_icmp_gt hF.1 hF.2.1 hd ht (fun q => kt q p e R s m args below meth c H locs cells slots Z ls hF hK hR hP hS hL hz hret) (fun q => kf q p e R s m args below meth c H locs cells slots Z ls hF hK hR hP hS hL hz hret)
theorem hg_if_le {x : Int32} {off : Int} {tgt : Nat} (hd : hg_D Y pc pc' 3 (.ifCond .le off)) (ht : (pc : Int) + off = (tgt : Int)) (kt : x ≤ 0 → hg_WP l E d Y mc ms tgt loc (st) M Q) (kf : ¬ (x ≤ 0) → hg_WP l E d Y mc ms pc' loc (st) M Q) : hg_WP l E d Y mc ms pc loc (.int x :: st) M Q := by
  intro p e R s m args below meth c H locs cells slots Z ls hF hK hR hP hS hL hz hret
  obtain ⟨hd, rfl⟩ := hd
  exact lv_if_le hF.1 hF.2.1 hd ht (fun q => kt q p e R s m args below meth c H locs cells slots Z ls hF hK hR hP hS hL hz hret) (fun q => kf q p e R s m args below meth c H locs cells slots Z ls hF hK hR hP hS hL hz hret)
theorem hg_icmp_le {x y : Int32} {off : Int} {tgt : Nat} (hd : hg_D Y pc pc' 3 (.if_icmp .le off)) (ht : (pc : Int) + off = (tgt : Int)) (kt : x ≤ y → hg_WP l E d Y mc ms tgt loc (st) M Q) (kf : ¬ (x ≤ y) → hg_WP l E d Y mc ms pc' loc (st) M Q) : hg_WP l E d Y mc ms pc loc (.int y :: .int x :: st) M Q := by
  intro p e R s m args below meth c H locs cells slots Z ls hF hK hR hP hS hL hz hret
  obtain ⟨hd, rfl⟩ := hd
  exact lv_icmp_le hF.1 hF.2.1 hd ht (fun q => kt q p e R s m args below meth c H locs cells slots Z ls hF hK hR hP hS hL hz hret) (fun q => kf q p e R s m args below meth c H locs cells slots Z ls hF hK hR hP hS hL hz hret)
theorem hg_goto  {off : Int} {tgt : Nat} (hd : hg_D Y pc pc' 3 (.goto off)) (ht : (pc : Int) + off = (tgt : Int)) (k : hg_WP l E d Y mc ms tgt loc (st) M Q) : hg_WP l E d Y mc ms pc loc (st) M Q := by
  intro p e R s m args below meth c H locs cells slots Z ls hF hK hR hP hS hL hz hret
  exact lv_goto hF.1 hF.2.1 hd.1 ht (k p e R s m args below meth c H locs cells slots Z ls hF hK hR hP hS hL hz hret)
theorem hg_ifnonnull {x : Nat} {off : Int} {tgt : Nat} (hd : hg_D Y pc pc' 3 (.ifnonnull off)) (ht : (pc : Int) + off = (tgt : Int)) (k : hg_WP l E d Y mc ms tgt loc (st) M Q) : hg_WP l E d Y mc ms pc loc (.ref x :: st) M Q := by
  intro p e R s m args below meth c H locs cells slots Z ls hF hK hR hP hS hL hz hret
  exact lv_ifnonnull hF.1 hF.2.1 hd.1 ht (k p e R s m args below meth c H locs cells slots Z ls hF hK hR hP hS hL hz hret)
theorem hg_ifnullN  {off : Int} {tgt : Nat} (hd : hg_D Y pc pc' 3 (.ifnull off)) (ht : (pc : Int) + off = (tgt : Int)) (k : hg_WP l E d Y mc ms tgt loc (st) M Q) : hg_WP l E d Y mc ms pc loc (.null :: st) M Q := by
  intro p e R s m args below meth c H locs cells slots Z ls hF hK hR hP hS hL hz hret
  exact lv_ifnullN hF.1 hF.2.1 hd.1 ht (k p e R s m args below meth c H locs cells slots Z ls hF hK hR hP hS hL hz hret)
theorem hg_ifnull {x : Nat} {off : Int} (hd : hg_D Y pc pc' 3 (.ifnull off)) (k : hg_WP l E d Y mc ms pc' loc (st) M Q) : hg_WP l E d Y mc ms pc loc (.ref x :: st) M Q := by
  intro p e R s m args below meth c H locs cells slots Z ls hF hK hR hP hS hL hz hret
  obtain ⟨hd, rfl⟩ := hd
  exact lv_ifnull hF.1 hF.2.1 hd (k p e R s m args below meth c H locs cells slots Z ls hF hK hR hP hS hL hz hret)
theorem hg_ifnonnullN {off : Int} (hd : hg_D Y pc pc' 3 (.ifnonnull off)) (k : hg_WP l E d Y mc ms pc' loc (st) M Q) : hg_WP l E d Y mc ms pc loc (.null :: st) M Q := by
  intro p e R s m args below meth c H locs cells slots Z ls hF hK hR hP hS hL hz hret
  obtain ⟨hd, rfl⟩ := hd
  exact lv_ifnonnullN hF.1 hF.2.1 hd (k p e R s m args below meth c H locs cells slots Z ls hF hK hR hP hS hL hz hret)
def hg_c1 : Option Value → Bool
  | some v => v.category == 1
  | none => true
theorem hg_lok.get {ls : Array Slot} {n : Nat} {loc : List (Option Value)} (h : hg_lok ls n loc) {i : Nat} {v : Value} (hi : loc[i]? = some (some v)) : ls[i]? = some (.val v) := by
  obtain ⟨-, lv, h1, h2⟩ := h
  exact h1.2.2 (i, v) (h2 i v hi)
theorem hg_lok.lt {ls : Array Slot} {n : Nat} {loc : List (Option Value)} (h : hg_lok ls n loc) {i : Nat} {v : Option Value} (hi : loc[i]? = some v) : i < n := by
  rw [← h.1]
  exact (List.getElem?_eq_some_iff.mp hi).1
theorem hg_lok.put {lv : List (Nat × Value)} {ls : Array Slot} {n : Nat} {loc : List (Option Value)} (h0 : loc.length = n) (h2 : ∀ i v, loc[i]? = some (some v) → (i, v) ∈ lv) {i : Nat} {v : Value} (hp : ∀ w, 0 < i → loc[i - 1]? = some (some w) → w.category = 1) (h1 : lv_has ls n ((i, v) :: lv.filter (fun q => !(q.1 == i) && !(q.1 + 1 == i && q.2.category == 2)))) : hg_lok ls n (loc.set i (some v)) := by
  refine ⟨by simp [h0], _, h1, fun j w hj => ?_⟩
  by_cases hji : j = i
  · subst hji
    have hlt : j < loc.length := by
      rcases Nat.lt_or_ge j loc.length with q | q
      · exact q
      · rw [List.getElem?_eq_none (by simpa using q)] at hj; cases hj
    rw [List.getElem?_set_self hlt] at hj
    cases hj
    exact List.mem_cons_self
  · rw [List.getElem?_set_ne (fun q => hji q.symm)] at hj
    refine List.mem_cons_of_mem _ (List.mem_filter.mpr ⟨h2 j w hj, ?_⟩)
    by_cases hq : j + 1 = i
    · subst hq
      have := hp w (Nat.succ_pos j) (by simpa using hj)
      simp [this]
    · simp [hji, hq]
theorem hg_lok.putl {lv : List (Nat × Value)} {ls : Array Slot} {n : Nat} {loc : List (Option Value)} (h0 : loc.length = n) (h2 : ∀ i v, loc[i]? = some (some v) → (i, v) ∈ lv) {i : Nat} {v : Value} (hp : ∀ w, 0 < i → loc[i - 1]? = some (some w) → w.category = 1) (h1 : lv_has ls n ((i, v) :: lv.filter (fun q => !(q.1 == i) && (!(q.1 == i + 1) && !(q.1 + 1 == i && q.2.category == 2))))) : hg_lok ls n ((loc.set i (some v)).set (i + 1) none) := by
  refine ⟨by simp [h0], _, h1, fun j w hj => ?_⟩
  by_cases hj1 : j = i + 1
  · subst hj1
    exfalso
    by_cases hlt : i + 1 < (loc.set i (some v)).length
    · rw [List.getElem?_set_self hlt] at hj; cases hj
    · rw [List.getElem?_eq_none (by simpa using hlt)] at hj; cases hj
  · rw [List.getElem?_set_ne (fun q => hj1 q.symm)] at hj
    by_cases hji : j = i
    · subst hji
      have hlt : j < loc.length := by
        rcases Nat.lt_or_ge j loc.length with q | q
        · exact q
        · rw [List.getElem?_eq_none (by simpa using q)] at hj; cases hj
      rw [List.getElem?_set_self hlt] at hj
      cases hj
      exact List.mem_cons_self
    · rw [List.getElem?_set_ne (fun q => hji q.symm)] at hj
      refine List.mem_cons_of_mem _ (List.mem_filter.mpr ⟨h2 j w hj, ?_⟩)
      by_cases hq : j + 1 = i
      · subst hq
        have := hp w (Nat.succ_pos j) (by simpa using hj)
        simp [this]
        try omega
      · simp [hji, hj1, hq]
theorem hg_iload0 {x : Int32} {br : List (Option Value)} (hd : hg_D Y pc pc' 1 (.iload_n 0)) (k : hg_WP l E d Y mc ms pc' (some (.int x) :: br) (.int x :: st) M Q) : hg_WP l E d Y mc ms pc (some (.int x) :: br) (st) M Q := by
  intro p e R s m args below meth c H locs cells slots Z ls hF hK hR hP hS hL hz hret
  obtain ⟨hd, rfl⟩ := hd
  exact lv_iload_n hF.1 hF.2.1 hd rfl (hL.get (i := 0) rfl) (k p e R s m args below meth c H locs cells slots Z ls hF hK hR hP hS hL hz hret)
theorem hg_lload0 {x : Int64} {br : List (Option Value)} (hd : hg_D Y pc pc' 1 (.lload_n 0)) (k : hg_WP l E d Y mc ms pc' (some (.long x) :: br) (.long x :: st) M Q) : hg_WP l E d Y mc ms pc (some (.long x) :: br) (st) M Q := by
  intro p e R s m args below meth c H locs cells slots Z ls hF hK hR hP hS hL hz hret
  obtain ⟨hd, rfl⟩ := hd
  exact lv_lload_n hF.1 hF.2.1 hd rfl (hL.get (i := 0) rfl) (k p e R s m args below meth c H locs cells slots Z ls hF hK hR hP hS hL hz hret)
theorem hg_aload0 {x : Nat} {br : List (Option Value)} (hd : hg_D Y pc pc' 1 (.aload_n 0)) (k : hg_WP l E d Y mc ms pc' (some (.ref x) :: br) (.ref x :: st) M Q) : hg_WP l E d Y mc ms pc (some (.ref x) :: br) (st) M Q := by
  intro p e R s m args below meth c H locs cells slots Z ls hF hK hR hP hS hL hz hret
  obtain ⟨hd, rfl⟩ := hd
  exact lv_aload_n hF.1 hF.2.1 hd rfl (hL.get (i := 0) rfl) (k p e R s m args below meth c H locs cells slots Z ls hF hK hR hP hS hL hz hret)
theorem hg_istore0 {x : Int32} {br0 : Option Value} {br : List (Option Value)} (hd : hg_D Y pc pc' 1 (.istore_n 0)) (k : hg_WP l E d Y mc ms pc' (some (.int x) :: br) (st) M Q) : hg_WP l E d Y mc ms pc (br0 :: br) (.int x :: st) M Q := by
  intro p e R s m args below meth c H locs cells slots Z ls hF hK hR hP hS hL hz hret
  obtain ⟨hd, rfl⟩ := hd
  obtain ⟨h0, lv, h1, h2⟩ := id hL
  exact lv_istore_n hF.1 hF.2.1 hd rfl h1 (hL.lt (i := 0) rfl) rfl (fun ls' h3 => k p e R s m args below meth c H locs cells slots Z ls' hF hK hR hP hS (hg_lok.put h0 h2 (i := 0) (fun w hw => absurd hw (Nat.lt_irrefl 0)) h3) hz hret)
theorem hg_astore0 {x : Nat} {br0 : Option Value} {br : List (Option Value)} (hd : hg_D Y pc pc' 1 (.astore_n 0)) (k : hg_WP l E d Y mc ms pc' (some (.ref x) :: br) (st) M Q) : hg_WP l E d Y mc ms pc (br0 :: br) (.ref x :: st) M Q := by
  intro p e R s m args below meth c H locs cells slots Z ls hF hK hR hP hS hL hz hret
  obtain ⟨hd, rfl⟩ := hd
  obtain ⟨h0, lv, h1, h2⟩ := id hL
  exact lv_astore_n hF.1 hF.2.1 hd rfl h1 (hL.lt (i := 0) rfl) rfl (fun ls' h3 => k p e R s m args below meth c H locs cells slots Z ls' hF hK hR hP hS (hg_lok.put h0 h2 (i := 0) (fun w hw => absurd hw (Nat.lt_irrefl 0)) h3) hz hret)
theorem hg_astoreN0 {br0 : Option Value} {br : List (Option Value)} (hd : hg_D Y pc pc' 1 (.astore_n 0)) (k : hg_WP l E d Y mc ms pc' (some (.null) :: br) (st) M Q) : hg_WP l E d Y mc ms pc (br0 :: br) (.null :: st) M Q := by
  intro p e R s m args below meth c H locs cells slots Z ls hF hK hR hP hS hL hz hret
  obtain ⟨hd, rfl⟩ := hd
  obtain ⟨h0, lv, h1, h2⟩ := id hL
  exact lv_astore_nN hF.1 hF.2.1 hd rfl h1 (hL.lt (i := 0) rfl) rfl (fun ls' h3 => k p e R s m args below meth c H locs cells slots Z ls' hF hK hR hP hS (hg_lok.put h0 h2 (i := 0) (fun w hw => absurd hw (Nat.lt_irrefl 0)) h3) hz hret)
theorem hg_lstore0 {x : Int64} {br0 br1 : Option Value} {br : List (Option Value)} (hd : hg_D Y pc pc' 1 (.lstore_n 0)) (k : hg_WP l E d Y mc ms pc' (some (.long x) :: none :: br) (st) M Q) : hg_WP l E d Y mc ms pc (br0 :: br1 :: br) (.long x :: st) M Q := by
  intro p e R s m args below meth c H locs cells slots Z ls hF hK hR hP hS hL hz hret
  obtain ⟨hd, rfl⟩ := hd
  obtain ⟨h0, lv, h1, h2⟩ := id hL
  exact lv_lstore_n hF.1 hF.2.1 hd rfl h1 (hL.lt (i := 1) rfl) rfl (fun ls' h3 => k p e R s m args below meth c H locs cells slots Z ls' hF hK hR hP hS (hg_lok.putl h0 h2 (i := 0) (fun w hw => absurd hw (Nat.lt_irrefl 0)) h3) hz hret)
theorem hg_iinc0 {x v : Int32} {n : Int} {br : List (Option Value)} (hd : hg_D Y pc pc' 3 (.iinc 0 n)) (hv : x + Int32.ofInt n = v) (k : hg_WP l E d Y mc ms pc' (some (.int v) :: br) (st) M Q) : hg_WP l E d Y mc ms pc (some (.int x) :: br) (st) M Q := by
  intro p e R s m args below meth c H locs cells slots Z ls hF hK hR hP hS hL hz hret
  obtain ⟨hd, rfl⟩ := hd
  obtain ⟨h0, lv, h1, h2⟩ := id hL
  obtain ⟨q, hq⟩ := List.getElem?_of_mem (h2 0 (.int x) rfl)
  exact lv_iinc hF.1 hF.2.1 hd h1 hq hv (hL.lt (i := 0) rfl) rfl (fun ls' h3 => k p e R s m args below meth c H locs cells slots Z ls' hF hK hR hP hS (hg_lok.put h0 h2 (i := 0) (fun w hw => absurd hw (Nat.lt_irrefl 0)) h3) hz hret)
theorem hg_iload1 {x : Int32} {b0 : Option Value} {br : List (Option Value)} (hd : hg_D Y pc pc' 1 (.iload_n 1)) (k : hg_WP l E d Y mc ms pc' (b0 :: some (.int x) :: br) (.int x :: st) M Q) : hg_WP l E d Y mc ms pc (b0 :: some (.int x) :: br) (st) M Q := by
  intro p e R s m args below meth c H locs cells slots Z ls hF hK hR hP hS hL hz hret
  obtain ⟨hd, rfl⟩ := hd
  exact lv_iload_n hF.1 hF.2.1 hd rfl (hL.get (i := 1) rfl) (k p e R s m args below meth c H locs cells slots Z ls hF hK hR hP hS hL hz hret)
theorem hg_lload1 {x : Int64} {b0 : Option Value} {br : List (Option Value)} (hd : hg_D Y pc pc' 1 (.lload_n 1)) (k : hg_WP l E d Y mc ms pc' (b0 :: some (.long x) :: br) (.long x :: st) M Q) : hg_WP l E d Y mc ms pc (b0 :: some (.long x) :: br) (st) M Q := by
  intro p e R s m args below meth c H locs cells slots Z ls hF hK hR hP hS hL hz hret
  obtain ⟨hd, rfl⟩ := hd
  exact lv_lload_n hF.1 hF.2.1 hd rfl (hL.get (i := 1) rfl) (k p e R s m args below meth c H locs cells slots Z ls hF hK hR hP hS hL hz hret)
theorem hg_aload1 {x : Nat} {b0 : Option Value} {br : List (Option Value)} (hd : hg_D Y pc pc' 1 (.aload_n 1)) (k : hg_WP l E d Y mc ms pc' (b0 :: some (.ref x) :: br) (.ref x :: st) M Q) : hg_WP l E d Y mc ms pc (b0 :: some (.ref x) :: br) (st) M Q := by
  intro p e R s m args below meth c H locs cells slots Z ls hF hK hR hP hS hL hz hret
  obtain ⟨hd, rfl⟩ := hd
  exact lv_aload_n hF.1 hF.2.1 hd rfl (hL.get (i := 1) rfl) (k p e R s m args below meth c H locs cells slots Z ls hF hK hR hP hS hL hz hret)
theorem hg_istore1 {x : Int32} {b0 br0 : Option Value} {br : List (Option Value)} (hd : hg_D Y pc pc' 1 (.istore_n 1)) (hb : hg_c1 b0 = true) (k : hg_WP l E d Y mc ms pc' (b0 :: some (.int x) :: br) (st) M Q) : hg_WP l E d Y mc ms pc (b0 :: br0 :: br) (.int x :: st) M Q := by
  intro p e R s m args below meth c H locs cells slots Z ls hF hK hR hP hS hL hz hret
  obtain ⟨hd, rfl⟩ := hd
  obtain ⟨h0, lv, h1, h2⟩ := id hL
  exact lv_istore_n hF.1 hF.2.1 hd rfl h1 (hL.lt (i := 1) rfl) rfl (fun ls' h3 => k p e R s m args below meth c H locs cells slots Z ls' hF hK hR hP hS (hg_lok.put h0 h2 (i := 1) (fun w _ hw => by have e : b0 = some w := Option.some.inj hw; subst e; exact beq_iff_eq.mp hb) h3) hz hret)
theorem hg_astore1 {x : Nat} {b0 br0 : Option Value} {br : List (Option Value)} (hd : hg_D Y pc pc' 1 (.astore_n 1)) (hb : hg_c1 b0 = true) (k : hg_WP l E d Y mc ms pc' (b0 :: some (.ref x) :: br) (st) M Q) : hg_WP l E d Y mc ms pc (b0 :: br0 :: br) (.ref x :: st) M Q := by
  intro p e R s m args below meth c H locs cells slots Z ls hF hK hR hP hS hL hz hret
  obtain ⟨hd, rfl⟩ := hd
  obtain ⟨h0, lv, h1, h2⟩ := id hL
  exact lv_astore_n hF.1 hF.2.1 hd rfl h1 (hL.lt (i := 1) rfl) rfl (fun ls' h3 => k p e R s m args below meth c H locs cells slots Z ls' hF hK hR hP hS (hg_lok.put h0 h2 (i := 1) (fun w _ hw => by have e : b0 = some w := Option.some.inj hw; subst e; exact beq_iff_eq.mp hb) h3) hz hret)
theorem hg_astoreN1 {b0 br0 : Option Value} {br : List (Option Value)} (hd : hg_D Y pc pc' 1 (.astore_n 1)) (hb : hg_c1 b0 = true) (k : hg_WP l E d Y mc ms pc' (b0 :: some (.null) :: br) (st) M Q) : hg_WP l E d Y mc ms pc (b0 :: br0 :: br) (.null :: st) M Q := by
  intro p e R s m args below meth c H locs cells slots Z ls hF hK hR hP hS hL hz hret
  obtain ⟨hd, rfl⟩ := hd
  obtain ⟨h0, lv, h1, h2⟩ := id hL
  exact lv_astore_nN hF.1 hF.2.1 hd rfl h1 (hL.lt (i := 1) rfl) rfl (fun ls' h3 => k p e R s m args below meth c H locs cells slots Z ls' hF hK hR hP hS (hg_lok.put h0 h2 (i := 1) (fun w _ hw => by have e : b0 = some w := Option.some.inj hw; subst e; exact beq_iff_eq.mp hb) h3) hz hret)
theorem hg_lstore1 {x : Int64} {b0 br0 br1 : Option Value} {br : List (Option Value)} (hd : hg_D Y pc pc' 1 (.lstore_n 1)) (hb : hg_c1 b0 = true) (k : hg_WP l E d Y mc ms pc' (b0 :: some (.long x) :: none :: br) (st) M Q) : hg_WP l E d Y mc ms pc (b0 :: br0 :: br1 :: br) (.long x :: st) M Q := by
  intro p e R s m args below meth c H locs cells slots Z ls hF hK hR hP hS hL hz hret
  obtain ⟨hd, rfl⟩ := hd
  obtain ⟨h0, lv, h1, h2⟩ := id hL
  exact lv_lstore_n hF.1 hF.2.1 hd rfl h1 (hL.lt (i := 2) rfl) rfl (fun ls' h3 => k p e R s m args below meth c H locs cells slots Z ls' hF hK hR hP hS (hg_lok.putl h0 h2 (i := 1) (fun w _ hw => by have e : b0 = some w := Option.some.inj hw; subst e; exact beq_iff_eq.mp hb) h3) hz hret)
theorem hg_iinc1 {x v : Int32} {n : Int} {b0 : Option Value} {br : List (Option Value)} (hd : hg_D Y pc pc' 3 (.iinc 1 n)) (hb : hg_c1 b0 = true) (hv : x + Int32.ofInt n = v) (k : hg_WP l E d Y mc ms pc' (b0 :: some (.int v) :: br) (st) M Q) : hg_WP l E d Y mc ms pc (b0 :: some (.int x) :: br) (st) M Q := by
  intro p e R s m args below meth c H locs cells slots Z ls hF hK hR hP hS hL hz hret
  obtain ⟨hd, rfl⟩ := hd
  obtain ⟨h0, lv, h1, h2⟩ := id hL
  obtain ⟨q, hq⟩ := List.getElem?_of_mem (h2 1 (.int x) rfl)
  exact lv_iinc hF.1 hF.2.1 hd h1 hq hv (hL.lt (i := 1) rfl) rfl (fun ls' h3 => k p e R s m args below meth c H locs cells slots Z ls' hF hK hR hP hS (hg_lok.put h0 h2 (i := 1) (fun w _ hw => by have e : b0 = some w := Option.some.inj hw; subst e; exact beq_iff_eq.mp hb) h3) hz hret)
theorem hg_iload2 {x : Int32} {b0 b1 : Option Value} {br : List (Option Value)} (hd : hg_D Y pc pc' 1 (.iload_n 2)) (k : hg_WP l E d Y mc ms pc' (b0 :: b1 :: some (.int x) :: br) (.int x :: st) M Q) : hg_WP l E d Y mc ms pc (b0 :: b1 :: some (.int x) :: br) (st) M Q := by
  intro p e R s m args below meth c H locs cells slots Z ls hF hK hR hP hS hL hz hret
  obtain ⟨hd, rfl⟩ := hd
  exact lv_iload_n hF.1 hF.2.1 hd rfl (hL.get (i := 2) rfl) (k p e R s m args below meth c H locs cells slots Z ls hF hK hR hP hS hL hz hret)
theorem hg_lload2 {x : Int64} {b0 b1 : Option Value} {br : List (Option Value)} (hd : hg_D Y pc pc' 1 (.lload_n 2)) (k : hg_WP l E d Y mc ms pc' (b0 :: b1 :: some (.long x) :: br) (.long x :: st) M Q) : hg_WP l E d Y mc ms pc (b0 :: b1 :: some (.long x) :: br) (st) M Q := by
  intro p e R s m args below meth c H locs cells slots Z ls hF hK hR hP hS hL hz hret
  obtain ⟨hd, rfl⟩ := hd
  exact lv_lload_n hF.1 hF.2.1 hd rfl (hL.get (i := 2) rfl) (k p e R s m args below meth c H locs cells slots Z ls hF hK hR hP hS hL hz hret)
theorem hg_aload2 {x : Nat} {b0 b1 : Option Value} {br : List (Option Value)} (hd : hg_D Y pc pc' 1 (.aload_n 2)) (k : hg_WP l E d Y mc ms pc' (b0 :: b1 :: some (.ref x) :: br) (.ref x :: st) M Q) : hg_WP l E d Y mc ms pc (b0 :: b1 :: some (.ref x) :: br) (st) M Q := by
  intro p e R s m args below meth c H locs cells slots Z ls hF hK hR hP hS hL hz hret
  obtain ⟨hd, rfl⟩ := hd
  exact lv_aload_n hF.1 hF.2.1 hd rfl (hL.get (i := 2) rfl) (k p e R s m args below meth c H locs cells slots Z ls hF hK hR hP hS hL hz hret)
theorem hg_istore2 {x : Int32} {b0 b1 br0 : Option Value} {br : List (Option Value)} (hd : hg_D Y pc pc' 1 (.istore_n 2)) (hb : hg_c1 b1 = true) (k : hg_WP l E d Y mc ms pc' (b0 :: b1 :: some (.int x) :: br) (st) M Q) : hg_WP l E d Y mc ms pc (b0 :: b1 :: br0 :: br) (.int x :: st) M Q := by
  intro p e R s m args below meth c H locs cells slots Z ls hF hK hR hP hS hL hz hret
  obtain ⟨hd, rfl⟩ := hd
  obtain ⟨h0, lv, h1, h2⟩ := id hL
  exact lv_istore_n hF.1 hF.2.1 hd rfl h1 (hL.lt (i := 2) rfl) rfl (fun ls' h3 => k p e R s m args below meth c H locs cells slots Z ls' hF hK hR hP hS (hg_lok.put h0 h2 (i := 2) (fun w _ hw => by have e : b1 = some w := Option.some.inj hw; subst e; exact beq_iff_eq.mp hb) h3) hz hret)
theorem hg_astore2 {x : Nat} {b0 b1 br0 : Option Value} {br : List (Option Value)} (hd : hg_D Y pc pc' 1 (.astore_n 2)) (hb : hg_c1 b1 = true) (k : hg_WP l E d Y mc ms pc' (b0 :: b1 :: some (.ref x) :: br) (st) M Q) : hg_WP l E d Y mc ms pc (b0 :: b1 :: br0 :: br) (.ref x :: st) M Q := by
  intro p e R s m args below meth c H locs cells slots Z ls hF hK hR hP hS hL hz hret
  obtain ⟨hd, rfl⟩ := hd
  obtain ⟨h0, lv, h1, h2⟩ := id hL
  exact lv_astore_n hF.1 hF.2.1 hd rfl h1 (hL.lt (i := 2) rfl) rfl (fun ls' h3 => k p e R s m args below meth c H locs cells slots Z ls' hF hK hR hP hS (hg_lok.put h0 h2 (i := 2) (fun w _ hw => by have e : b1 = some w := Option.some.inj hw; subst e; exact beq_iff_eq.mp hb) h3) hz hret)
theorem hg_astoreN2 {b0 b1 br0 : Option Value} {br : List (Option Value)} (hd : hg_D Y pc pc' 1 (.astore_n 2)) (hb : hg_c1 b1 = true) (k : hg_WP l E d Y mc ms pc' (b0 :: b1 :: some (.null) :: br) (st) M Q) : hg_WP l E d Y mc ms pc (b0 :: b1 :: br0 :: br) (.null :: st) M Q := by
  intro p e R s m args below meth c H locs cells slots Z ls hF hK hR hP hS hL hz hret
  obtain ⟨hd, rfl⟩ := hd
  obtain ⟨h0, lv, h1, h2⟩ := id hL
  exact lv_astore_nN hF.1 hF.2.1 hd rfl h1 (hL.lt (i := 2) rfl) rfl (fun ls' h3 => k p e R s m args below meth c H locs cells slots Z ls' hF hK hR hP hS (hg_lok.put h0 h2 (i := 2) (fun w _ hw => by have e : b1 = some w := Option.some.inj hw; subst e; exact beq_iff_eq.mp hb) h3) hz hret)
theorem hg_lstore2 {x : Int64} {b0 b1 br0 br1 : Option Value} {br : List (Option Value)} (hd : hg_D Y pc pc' 1 (.lstore_n 2)) (hb : hg_c1 b1 = true) (k : hg_WP l E d Y mc ms pc' (b0 :: b1 :: some (.long x) :: none :: br) (st) M Q) : hg_WP l E d Y mc ms pc (b0 :: b1 :: br0 :: br1 :: br) (.long x :: st) M Q := by
  intro p e R s m args below meth c H locs cells slots Z ls hF hK hR hP hS hL hz hret
  obtain ⟨hd, rfl⟩ := hd
  obtain ⟨h0, lv, h1, h2⟩ := id hL
  exact lv_lstore_n hF.1 hF.2.1 hd rfl h1 (hL.lt (i := 3) rfl) rfl (fun ls' h3 => k p e R s m args below meth c H locs cells slots Z ls' hF hK hR hP hS (hg_lok.putl h0 h2 (i := 2) (fun w _ hw => by have e : b1 = some w := Option.some.inj hw; subst e; exact beq_iff_eq.mp hb) h3) hz hret)
theorem hg_iinc2 {x v : Int32} {n : Int} {b0 b1 : Option Value} {br : List (Option Value)} (hd : hg_D Y pc pc' 3 (.iinc 2 n)) (hb : hg_c1 b1 = true) (hv : x + Int32.ofInt n = v) (k : hg_WP l E d Y mc ms pc' (b0 :: b1 :: some (.int v) :: br) (st) M Q) : hg_WP l E d Y mc ms pc (b0 :: b1 :: some (.int x) :: br) (st) M Q := by
  intro p e R s m args below meth c H locs cells slots Z ls hF hK hR hP hS hL hz hret
  obtain ⟨hd, rfl⟩ := hd
  obtain ⟨h0, lv, h1, h2⟩ := id hL
  obtain ⟨q, hq⟩ := List.getElem?_of_mem (h2 2 (.int x) rfl)
  exact lv_iinc hF.1 hF.2.1 hd h1 hq hv (hL.lt (i := 2) rfl) rfl (fun ls' h3 => k p e R s m args below meth c H locs cells slots Z ls' hF hK hR hP hS (hg_lok.put h0 h2 (i := 2) (fun w _ hw => by have e : b1 = some w := Option.some.inj hw; subst e; exact beq_iff_eq.mp hb) h3) hz hret)
theorem hg_iload3 {x : Int32} {b0 b1 b2 : Option Value} {br : List (Option Value)} (hd : hg_D Y pc pc' 1 (.iload_n 3)) (k : hg_WP l E d Y mc ms pc' (b0 :: b1 :: b2 :: some (.int x) :: br) (.int x :: st) M Q) : hg_WP l E d Y mc ms pc (b0 :: b1 :: b2 :: some (.int x) :: br) (st) M Q := by
  intro p e R s m args below meth c H locs cells slots Z ls hF hK hR hP hS hL hz hret
  obtain ⟨hd, rfl⟩ := hd
  exact lv_iload_n hF.1 hF.2.1 hd rfl (hL.get (i := 3) rfl) (k p e R s m args below meth c H locs cells slots Z ls hF hK hR hP hS hL hz hret)
theorem hg_lload3 {x : Int64} {b0 b1 b2 : Option Value} {br : List (Option Value)} (hd : hg_D Y pc pc' 1 (.lload_n 3)) (k : hg_WP l E d Y mc ms pc' (b0 :: b1 :: b2 :: some (.long x) :: br) (.long x :: st) M Q) : hg_WP l E d Y mc ms pc (b0 :: b1 :: b2 :: some (.long x) :: br) (st) M Q := by
  intro p e R s m args below meth c H locs cells slots Z ls hF hK hR hP hS hL hz hret
  obtain ⟨hd, rfl⟩ := hd
  exact lv_lload_n hF.1 hF.2.1 hd rfl (hL.get (i := 3) rfl) (k p e R s m args below meth c H locs cells slots Z ls hF hK hR hP hS hL hz hret)
theorem hg_aload3 {x : Nat} {b0 b1 b2 : Option Value} {br : List (Option Value)} (hd : hg_D Y pc pc' 1 (.aload_n 3)) (k : hg_WP l E d Y mc ms pc' (b0 :: b1 :: b2 :: some (.ref x) :: br) (.ref x :: st) M Q) : hg_WP l E d Y mc ms pc (b0 :: b1 :: b2 :: some (.ref x) :: br) (st) M Q := by
  intro p e R s m args below meth c H locs cells slots Z ls hF hK hR hP hS hL hz hret
  obtain ⟨hd, rfl⟩ := hd
  exact lv_aload_n hF.1 hF.2.1 hd rfl (hL.get (i := 3) rfl) (k p e R s m args below meth c H locs cells slots Z ls hF hK hR hP hS hL hz hret)
theorem hg_istore3 {x : Int32} {b0 b1 b2 br0 : Option Value} {br : List (Option Value)} (hd : hg_D Y pc pc' 1 (.istore_n 3)) (hb : hg_c1 b2 = true) (k : hg_WP l E d Y mc ms pc' (b0 :: b1 :: b2 :: some (.int x) :: br) (st) M Q) : hg_WP l E d Y mc ms pc (b0 :: b1 :: b2 :: br0 :: br) (.int x :: st) M Q := by
  intro p e R s m args below meth c H locs cells slots Z ls hF hK hR hP hS hL hz hret
  obtain ⟨hd, rfl⟩ := hd
  obtain ⟨h0, lv, h1, h2⟩ := id hL
  exact lv_istore_n hF.1 hF.2.1 hd rfl h1 (hL.lt (i := 3) rfl) rfl (fun ls' h3 => k p e R s m args below meth c H locs cells slots Z ls' hF hK hR hP hS (hg_lok.put h0 h2 (i := 3) (fun w _ hw => by have e : b2 = some w := Option.some.inj hw; subst e; exact beq_iff_eq.mp hb) h3) hz hret)
theorem hg_astore3 {x : Nat} {b0 b1 b2 br0 : Option Value} {br : List (Option Value)} (hd : hg_D Y pc pc' 1 (.astore_n 3)) (hb : hg_c1 b2 = true) (k : hg_WP l E d Y mc ms pc' (b0 :: b1 :: b2 :: some (.ref x) :: br) (st) M Q) : hg_WP l E d Y mc ms pc (b0 :: b1 :: b2 :: br0 :: br) (.ref x :: st) M Q := by
  intro p e R s m args below meth c H locs cells slots Z ls hF hK hR hP hS hL hz hret
  obtain ⟨hd, rfl⟩ := hd
  obtain ⟨h0, lv, h1, h2⟩ := id hL
  exact lv_astore_n hF.1 hF.2.1 hd rfl h1 (hL.lt (i := 3) rfl) rfl (fun ls' h3 => k p e R s m args below meth c H locs cells slots Z ls' hF hK hR hP hS (hg_lok.put h0 h2 (i := 3) (fun w _ hw => by have e : b2 = some w := Option.some.inj hw; subst e; exact beq_iff_eq.mp hb) h3) hz hret)
theorem hg_astoreN3 {b0 b1 b2 br0 : Option Value} {br : List (Option Value)} (hd : hg_D Y pc pc' 1 (.astore_n 3)) (hb : hg_c1 b2 = true) (k : hg_WP l E d Y mc ms pc' (b0 :: b1 :: b2 :: some (.null) :: br) (st) M Q) : hg_WP l E d Y mc ms pc (b0 :: b1 :: b2 :: br0 :: br) (.null :: st) M Q := by
  intro p e R s m args below meth c H locs cells slots Z ls hF hK hR hP hS hL hz hret
  obtain ⟨hd, rfl⟩ := hd
  obtain ⟨h0, lv, h1, h2⟩ := id hL
  exact lv_astore_nN hF.1 hF.2.1 hd rfl h1 (hL.lt (i := 3) rfl) rfl (fun ls' h3 => k p e R s m args below meth c H locs cells slots Z ls' hF hK hR hP hS (hg_lok.put h0 h2 (i := 3) (fun w _ hw => by have e : b2 = some w := Option.some.inj hw; subst e; exact beq_iff_eq.mp hb) h3) hz hret)
theorem hg_lstore3 {x : Int64} {b0 b1 b2 br0 br1 : Option Value} {br : List (Option Value)} (hd : hg_D Y pc pc' 1 (.lstore_n 3)) (hb : hg_c1 b2 = true) (k : hg_WP l E d Y mc ms pc' (b0 :: b1 :: b2 :: some (.long x) :: none :: br) (st) M Q) : hg_WP l E d Y mc ms pc (b0 :: b1 :: b2 :: br0 :: br1 :: br) (.long x :: st) M Q := by
  intro p e R s m args below meth c H locs cells slots Z ls hF hK hR hP hS hL hz hret
  obtain ⟨hd, rfl⟩ := hd
  obtain ⟨h0, lv, h1, h2⟩ := id hL
  exact lv_lstore_n hF.1 hF.2.1 hd rfl h1 (hL.lt (i := 4) rfl) rfl (fun ls' h3 => k p e R s m args below meth c H locs cells slots Z ls' hF hK hR hP hS (hg_lok.putl h0 h2 (i := 3) (fun w _ hw => by have e : b2 = some w := Option.some.inj hw; subst e; exact beq_iff_eq.mp hb) h3) hz hret)
theorem hg_iinc3 {x v : Int32} {n : Int} {b0 b1 b2 : Option Value} {br : List (Option Value)} (hd : hg_D Y pc pc' 3 (.iinc 3 n)) (hb : hg_c1 b2 = true) (hv : x + Int32.ofInt n = v) (k : hg_WP l E d Y mc ms pc' (b0 :: b1 :: b2 :: some (.int v) :: br) (st) M Q) : hg_WP l E d Y mc ms pc (b0 :: b1 :: b2 :: some (.int x) :: br) (st) M Q := by
  intro p e R s m args below meth c H locs cells slots Z ls hF hK hR hP hS hL hz hret
  obtain ⟨hd, rfl⟩ := hd
  obtain ⟨h0, lv, h1, h2⟩ := id hL
  obtain ⟨q, hq⟩ := List.getElem?_of_mem (h2 3 (.int x) rfl)
  exact lv_iinc hF.1 hF.2.1 hd h1 hq hv (hL.lt (i := 3) rfl) rfl (fun ls' h3 => k p e R s m args below meth c H locs cells slots Z ls' hF hK hR hP hS (hg_lok.put h0 h2 (i := 3) (fun w _ hw => by have e : b2 = some w := Option.some.inj hw; subst e; exact beq_iff_eq.mp hb) h3) hz hret)
theorem hg_iload4 {x : Int32} {b0 b1 b2 b3 : Option Value} {br : List (Option Value)} (hd : hg_D Y pc pc' 2 (.iload 4)) (k : hg_WP l E d Y mc ms pc' (b0 :: b1 :: b2 :: b3 :: some (.int x) :: br) (.int x :: st) M Q) : hg_WP l E d Y mc ms pc (b0 :: b1 :: b2 :: b3 :: some (.int x) :: br) (st) M Q := by
  intro p e R s m args below meth c H locs cells slots Z ls hF hK hR hP hS hL hz hret
  obtain ⟨hd, rfl⟩ := hd
  exact lv_iload hF.1 hF.2.1 hd (hL.get (i := 4) rfl) (k p e R s m args below meth c H locs cells slots Z ls hF hK hR hP hS hL hz hret)
theorem hg_lload4 {x : Int64} {b0 b1 b2 b3 : Option Value} {br : List (Option Value)} (hd : hg_D Y pc pc' 2 (.lload 4)) (k : hg_WP l E d Y mc ms pc' (b0 :: b1 :: b2 :: b3 :: some (.long x) :: br) (.long x :: st) M Q) : hg_WP l E d Y mc ms pc (b0 :: b1 :: b2 :: b3 :: some (.long x) :: br) (st) M Q := by
  intro p e R s m args below meth c H locs cells slots Z ls hF hK hR hP hS hL hz hret
  obtain ⟨hd, rfl⟩ := hd
  exact lv_lload hF.1 hF.2.1 hd (hL.get (i := 4) rfl) (k p e R s m args below meth c H locs cells slots Z ls hF hK hR hP hS hL hz hret)
theorem hg_aload4 {x : Nat} {b0 b1 b2 b3 : Option Value} {br : List (Option Value)} (hd : hg_D Y pc pc' 2 (.aload 4)) (k : hg_WP l E d Y mc ms pc' (b0 :: b1 :: b2 :: b3 :: some (.ref x) :: br) (.ref x :: st) M Q) : hg_WP l E d Y mc ms pc (b0 :: b1 :: b2 :: b3 :: some (.ref x) :: br) (st) M Q := by
  intro p e R s m args below meth c H locs cells slots Z ls hF hK hR hP hS hL hz hret
  obtain ⟨hd, rfl⟩ := hd
  exact lv_aload hF.1 hF.2.1 hd (hL.get (i := 4) rfl) (k p e R s m args below meth c H locs cells slots Z ls hF hK hR hP hS hL hz hret)
theorem hg_istore4 {x : Int32} {b0 b1 b2 b3 br0 : Option Value} {br : List (Option Value)} (hd : hg_D Y pc pc' 2 (.istore 4)) (hb : hg_c1 b3 = true) (k : hg_WP l E d Y mc ms pc' (b0 :: b1 :: b2 :: b3 :: some (.int x) :: br) (st) M Q) : hg_WP l E d Y mc ms pc (b0 :: b1 :: b2 :: b3 :: br0 :: br) (.int x :: st) M Q := by
  intro p e R s m args below meth c H locs cells slots Z ls hF hK hR hP hS hL hz hret
  obtain ⟨hd, rfl⟩ := hd
  obtain ⟨h0, lv, h1, h2⟩ := id hL
  exact lv_istore hF.1 hF.2.1 hd h1 (hL.lt (i := 4) rfl) rfl (fun ls' h3 => k p e R s m args below meth c H locs cells slots Z ls' hF hK hR hP hS (hg_lok.put h0 h2 (i := 4) (fun w _ hw => by have e : b3 = some w := Option.some.inj hw; subst e; exact beq_iff_eq.mp hb) h3) hz hret)
theorem hg_astore4 {x : Nat} {b0 b1 b2 b3 br0 : Option Value} {br : List (Option Value)} (hd : hg_D Y pc pc' 2 (.astore 4)) (hb : hg_c1 b3 = true) (k : hg_WP l E d Y mc ms pc' (b0 :: b1 :: b2 :: b3 :: some (.ref x) :: br) (st) M Q) : hg_WP l E d Y mc ms pc (b0 :: b1 :: b2 :: b3 :: br0 :: br) (.ref x :: st) M Q := by
  intro p e R s m args below meth c H locs cells slots Z ls hF hK hR hP hS hL hz hret
  obtain ⟨hd, rfl⟩ := hd
  obtain ⟨h0, lv, h1, h2⟩ := id hL
  exact lv_astore hF.1 hF.2.1 hd h1 (hL.lt (i := 4) rfl) rfl (fun ls' h3 => k p e R s m args below meth c H locs cells slots Z ls' hF hK hR hP hS (hg_lok.put h0 h2 (i := 4) (fun w _ hw => by have e : b3 = some w := Option.some.inj hw; subst e; exact beq_iff_eq.mp hb) h3) hz hret)
theorem hg_astoreN4 {b0 b1 b2 b3 br0 : Option Value} {br : List (Option Value)} (hd : hg_D Y pc pc' 2 (.astore 4)) (hb : hg_c1 b3 = true) (k : hg_WP l E d Y mc ms pc' (b0 :: b1 :: b2 :: b3 :: some (.null) :: br) (st) M Q) : hg_WP l E d Y mc ms pc (b0 :: b1 :: b2 :: b3 :: br0 :: br) (.null :: st) M Q := by
  intro p e R s m args below meth c H locs cells slots Z ls hF hK hR hP hS hL hz hret
  obtain ⟨hd, rfl⟩ := hd
  obtain ⟨h0, lv, h1, h2⟩ := id hL
  exact lv_astoreN hF.1 hF.2.1 hd h1 (hL.lt (i := 4) rfl) rfl (fun ls' h3 => k p e R s m args below meth c H locs cells slots Z ls' hF hK hR hP hS (hg_lok.put h0 h2 (i := 4) (fun w _ hw => by have e : b3 = some w := Option.some.inj hw; subst e; exact beq_iff_eq.mp hb) h3) hz hret)
theorem hg_lstore4 {x : Int64} {b0 b1 b2 b3 br0 br1 : Option Value} {br : List (Option Value)} (hd : hg_D Y pc pc' 2 (.lstore 4)) (hb : hg_c1 b3 = true) (k : hg_WP l E d Y mc ms pc' (b0 :: b1 :: b2 :: b3 :: some (.long x) :: none :: br) (st) M Q) : hg_WP l E d Y mc ms pc (b0 :: b1 :: b2 :: b3 :: br0 :: br1 :: br) (.long x :: st) M Q := by
  intro p e R s m args below meth c H locs cells slots Z ls hF hK hR hP hS hL hz hret
  obtain ⟨hd, rfl⟩ := hd
  obtain ⟨h0, lv, h1, h2⟩ := id hL
  exact lv_lstore hF.1 hF.2.1 hd h1 (hL.lt (i := 5) rfl) rfl (fun ls' h3 => k p e R s m args below meth c H locs cells slots Z ls' hF hK hR hP hS (hg_lok.putl h0 h2 (i := 4) (fun w _ hw => by have e : b3 = some w := Option.some.inj hw; subst e; exact beq_iff_eq.mp hb) h3) hz hret)
theorem hg_iinc4 {x v : Int32} {n : Int} {b0 b1 b2 b3 : Option Value} {br : List (Option Value)} (hd : hg_D Y pc pc' 3 (.iinc 4 n)) (hb : hg_c1 b3 = true) (hv : x + Int32.ofInt n = v) (k : hg_WP l E d Y mc ms pc' (b0 :: b1 :: b2 :: b3 :: some (.int v) :: br) (st) M Q) : hg_WP l E d Y mc ms pc (b0 :: b1 :: b2 :: b3 :: some (.int x) :: br) (st) M Q := by
  intro p e R s m args below meth c H locs cells slots Z ls hF hK hR hP hS hL hz hret
  obtain ⟨hd, rfl⟩ := hd
  obtain ⟨h0, lv, h1, h2⟩ := id hL
  obtain ⟨q, hq⟩ := List.getElem?_of_mem (h2 4 (.int x) rfl)
  exact lv_iinc hF.1 hF.2.1 hd h1 hq hv (hL.lt (i := 4) rfl) rfl (fun ls' h3 => k p e R s m args below meth c H locs cells slots Z ls' hF hK hR hP hS (hg_lok.put h0 h2 (i := 4) (fun w _ hw => by have e : b3 = some w := Option.some.inj hw; subst e; exact beq_iff_eq.mp hb) h3) hz hret)
theorem hg_iload5 {x : Int32} {b0 b1 b2 b3 b4 : Option Value} {br : List (Option Value)} (hd : hg_D Y pc pc' 2 (.iload 5)) (k : hg_WP l E d Y mc ms pc' (b0 :: b1 :: b2 :: b3 :: b4 :: some (.int x) :: br) (.int x :: st) M Q) : hg_WP l E d Y mc ms pc (b0 :: b1 :: b2 :: b3 :: b4 :: some (.int x) :: br) (st) M Q := by
  intro p e R s m args below meth c H locs cells slots Z ls hF hK hR hP hS hL hz hret
  obtain ⟨hd, rfl⟩ := hd
  exact lv_iload hF.1 hF.2.1 hd (hL.get (i := 5) rfl) (k p e R s m args below meth c H locs cells slots Z ls hF hK hR hP hS hL hz hret)
theorem hg_lload5 {x : Int64} {b0 b1 b2 b3 b4 : Option Value} {br : List (Option Value)} (hd : hg_D Y pc pc' 2 (.lload 5)) (k : hg_WP l E d Y mc ms pc' (b0 :: b1 :: b2 :: b3 :: b4 :: some (.long x) :: br) (.long x :: st) M Q) : hg_WP l E d Y mc ms pc (b0 :: b1 :: b2 :: b3 :: b4 :: some (.long x) :: br) (st) M Q := by
  intro p e R s m args below meth c H locs cells slots Z ls hF hK hR hP hS hL hz hret
  obtain ⟨hd, rfl⟩ := hd
  exact lv_lload hF.1 hF.2.1 hd (hL.get (i := 5) rfl) (k p e R s m args below meth c H locs cells slots Z ls hF hK hR hP hS hL hz hret)
theorem hg_aload5 {x : Nat} {b0 b1 b2 b3 b4 : Option Value} {br : List (Option Value)} (hd : hg_D Y pc pc' 2 (.aload 5)) (k : hg_WP l E d Y mc ms pc' (b0 :: b1 :: b2 :: b3 :: b4 :: some (.ref x) :: br) (.ref x :: st) M Q) : hg_WP l E d Y mc ms pc (b0 :: b1 :: b2 :: b3 :: b4 :: some (.ref x) :: br) (st) M Q := by
  intro p e R s m args below meth c H locs cells slots Z ls hF hK hR hP hS hL hz hret
  obtain ⟨hd, rfl⟩ := hd
  exact lv_aload hF.1 hF.2.1 hd (hL.get (i := 5) rfl) (k p e R s m args below meth c H locs cells slots Z ls hF hK hR hP hS hL hz hret)
theorem hg_istore5 {x : Int32} {b0 b1 b2 b3 b4 br0 : Option Value} {br : List (Option Value)} (hd : hg_D Y pc pc' 2 (.istore 5)) (hb : hg_c1 b4 = true) (k : hg_WP l E d Y mc ms pc' (b0 :: b1 :: b2 :: b3 :: b4 :: some (.int x) :: br) (st) M Q) : hg_WP l E d Y mc ms pc (b0 :: b1 :: b2 :: b3 :: b4 :: br0 :: br) (.int x :: st) M Q := by
  intro p e R s m args below meth c H locs cells slots Z ls hF hK hR hP hS hL hz hret
  obtain ⟨hd, rfl⟩ := hd
  obtain ⟨h0, lv, h1, h2⟩ := id hL
  exact lv_istore hF.1 hF.2.1 hd h1 (hL.lt (i := 5) rfl) rfl (fun ls' h3 => k p e R s m args below meth c H locs cells slots Z ls' hF hK hR hP hS (hg_lok.put h0 h2 (i := 5) (fun w _ hw => by have e : b4 = some w := Option.some.inj hw; subst e; exact beq_iff_eq.mp hb) h3) hz hret)
theorem hg_astore5 {x : Nat} {b0 b1 b2 b3 b4 br0 : Option Value} {br : List (Option Value)} (hd : hg_D Y pc pc' 2 (.astore 5)) (hb : hg_c1 b4 = true) (k : hg_WP l E d Y mc ms pc' (b0 :: b1 :: b2 :: b3 :: b4 :: some (.ref x) :: br) (st) M Q) : hg_WP l E d Y mc ms pc (b0 :: b1 :: b2 :: b3 :: b4 :: br0 :: br) (.ref x :: st) M Q := by
  intro p e R s m args below meth c H locs cells slots Z ls hF hK hR hP hS hL hz hret
  obtain ⟨hd, rfl⟩ := hd
  obtain ⟨h0, lv, h1, h2⟩ := id hL
  exact lv_astore hF.1 hF.2.1 hd h1 (hL.lt (i := 5) rfl) rfl (fun ls' h3 => k p e R s m args below meth c H locs cells slots Z ls' hF hK hR hP hS (hg_lok.put h0 h2 (i := 5) (fun w _ hw => by have e : b4 = some w := Option.some.inj hw; subst e; exact beq_iff_eq.mp hb) h3) hz hret)
theorem hg_astoreN5 {b0 b1 b2 b3 b4 br0 : Option Value} {br : List (Option Value)} (hd : hg_D Y pc pc' 2 (.astore 5)) (hb : hg_c1 b4 = true) (k : hg_WP l E d Y mc ms pc' (b0 :: b1 :: b2 :: b3 :: b4 :: some (.null) :: br) (st) M Q) : hg_WP l E d Y mc ms pc (b0 :: b1 :: b2 :: b3 :: b4 :: br0 :: br) (.null :: st) M Q := by
  intro p e R s m args below meth c H locs cells slots Z ls hF hK hR hP hS hL hz hret
  obtain ⟨hd, rfl⟩ := hd
  obtain ⟨h0, lv, h1, h2⟩ := id hL
  exact lv_astoreN hF.1 hF.2.1 hd h1 (hL.lt (i := 5) rfl) rfl (fun ls' h3 => k p e R s m args below meth c H locs cells slots Z ls' hF hK hR hP hS (hg_lok.put h0 h2 (i := 5) (fun w _ hw => by have e : b4 = some w := Option.some.inj hw; subst e; exact beq_iff_eq.mp hb) h3) hz hret)
theorem hg_lstore5 {x : Int64} {b0 b1 b2 b3 b4 br0 br1 : Option Value} {br : List (Option Value)} (hd : hg_D Y pc pc' 2 (.lstore 5)) (hb : hg_c1 b4 = true) (k : hg_WP l E d Y mc ms pc' (b0 :: b1 :: b2 :: b3 :: b4 :: some (.long x) :: none :: br) (st) M Q) : hg_WP l E d Y mc ms pc (b0 :: b1 :: b2 :: b3 :: b4 :: br0 :: br1 :: br) (.long x :: st) M Q := by
  intro p e R s m args below meth c H locs cells slots Z ls hF hK hR hP hS hL hz hret
  obtain ⟨hd, rfl⟩ := hd
  obtain ⟨h0, lv, h1, h2⟩ := id hL
  exact lv_lstore hF.1 hF.2.1 hd h1 (hL.lt (i := 6) rfl) rfl (fun ls' h3 => k p e R s m args below meth c H locs cells slots Z ls' hF hK hR hP hS (hg_lok.putl h0 h2 (i := 5) (fun w _ hw => by have e : b4 = some w := Option.some.inj hw; subst e; exact beq_iff_eq.mp hb) h3) hz hret)
theorem hg_iinc5 {x v : Int32} {n : Int} {b0 b1 b2 b3 b4 : Option Value} {br : List (Option Value)} (hd : hg_D Y pc pc' 3 (.iinc 5 n)) (hb : hg_c1 b4 = true) (hv : x + Int32.ofInt n = v) (k : hg_WP l E d Y mc ms pc' (b0 :: b1 :: b2 :: b3 :: b4 :: some (.int v) :: br) (st) M Q) : hg_WP l E d Y mc ms pc (b0 :: b1 :: b2 :: b3 :: b4 :: some (.int x) :: br) (st) M Q := by
  intro p e R s m args below meth c H locs cells slots Z ls hF hK hR hP hS hL hz hret
  obtain ⟨hd, rfl⟩ := hd
  obtain ⟨h0, lv, h1, h2⟩ := id hL
  obtain ⟨q, hq⟩ := List.getElem?_of_mem (h2 5 (.int x) rfl)
  exact lv_iinc hF.1 hF.2.1 hd h1 hq hv (hL.lt (i := 5) rfl) rfl (fun ls' h3 => k p e R s m args below meth c H locs cells slots Z ls' hF hK hR hP hS (hg_lok.put h0 h2 (i := 5) (fun w _ hw => by have e : b4 = some w := Option.some.inj hw; subst e; exact beq_iff_eq.mp hb) h3) hz hret)
theorem hg_iload6 {x : Int32} {b0 b1 b2 b3 b4 b5 : Option Value} {br : List (Option Value)} (hd : hg_D Y pc pc' 2 (.iload 6)) (k : hg_WP l E d Y mc ms pc' (b0 :: b1 :: b2 :: b3 :: b4 :: b5 :: some (.int x) :: br) (.int x :: st) M Q) : hg_WP l E d Y mc ms pc (b0 :: b1 :: b2 :: b3 :: b4 :: b5 :: some (.int x) :: br) (st) M Q := by
  intro p e R s m args below meth c H locs cells slots Z ls hF hK hR hP hS hL hz hret
  obtain ⟨hd, rfl⟩ := hd
  exact lv_iload hF.1 hF.2.1 hd (hL.get (i := 6) rfl) (k p e R s m args below meth c H locs cells slots Z ls hF hK hR hP hS hL hz hret)
theorem hg_lload6 {x : Int64} {b0 b1 b2 b3 b4 b5 : Option Value} {br : List (Option Value)} (hd : hg_D Y pc pc' 2 (.lload 6)) (k : hg_WP l E d Y mc ms pc' (b0 :: b1 :: b2 :: b3 :: b4 :: b5 :: some (.long x) :: br) (.long x :: st) M Q) : hg_WP l E d Y mc ms pc (b0 :: b1 :: b2 :: b3 :: b4 :: b5 :: some (.long x) :: br) (st) M Q := by
  intro p e R s m args below meth c H locs cells slots Z ls hF hK hR hP hS hL hz hret
  obtain ⟨hd, rfl⟩ := hd
  exact lv_lload hF.1 hF.2.1 hd (hL.get (i := 6) rfl) (k p e R s m args below meth c H locs cells slots Z ls hF hK hR hP hS hL hz hret)
theorem hg_aload6 {x : Nat} {b0 b1 b2 b3 b4 b5 : Option Value} {br : List (Option Value)} (hd : hg_D Y pc pc' 2 (.aload 6)) (k : hg_WP l E d Y mc ms pc' (b0 :: b1 :: b2 :: b3 :: b4 :: b5 :: some (.ref x) :: br) (.ref x :: st) M Q) : hg_WP l E d Y mc ms pc (b0 :: b1 :: b2 :: b3 :: b4 :: b5 :: some (.ref x) :: br) (st) M Q := by
  intro p e R s m args below meth c H locs cells slots Z ls hF hK hR hP hS hL hz hret
  obtain ⟨hd, rfl⟩ := hd
  exact lv_aload hF.1 hF.2.1 hd (hL.get (i := 6) rfl) (k p e R s m args below meth c H locs cells slots Z ls hF hK hR hP hS hL hz hret)
theorem hg_istore6 {x : Int32} {b0 b1 b2 b3 b4 b5 br0 : Option Value} {br : List (Option Value)} (hd : hg_D Y pc pc' 2 (.istore 6)) (hb : hg_c1 b5 = true) (k : hg_WP l E d Y mc ms pc' (b0 :: b1 :: b2 :: b3 :: b4 :: b5 :: some (.int x) :: br) (st) M Q) : hg_WP l E d Y mc ms pc (b0 :: b1 :: b2 :: b3 :: b4 :: b5 :: br0 :: br) (.int x :: st) M Q := by
  intro p e R s m args below meth c H locs cells slots Z ls hF hK hR hP hS hL hz hret
  obtain ⟨hd, rfl⟩ := hd
  obtain ⟨h0, lv, h1, h2⟩ := id hL
  exact lv_istore hF.1 hF.2.1 hd h1 (hL.lt (i := 6) rfl) rfl (fun ls' h3 => k p e R s m args below meth c H locs cells slots Z ls' hF hK hR hP hS (hg_lok.put h0 h2 (i := 6) (fun w _ hw => by have e : b5 = some w := Option.some.inj hw; subst e; exact beq_iff_eq.mp hb) h3) hz hret)
theorem hg_astore6 {x : Nat} {b0 b1 b2 b3 b4 b5 br0 : Option Value} {br : List (Option Value)} (hd : hg_D Y pc pc' 2 (.astore 6)) (hb : hg_c1 b5 = true) (k : hg_WP l E d Y mc ms pc' (b0 :: b1 :: b2 :: b3 :: b4 :: b5 :: some (.ref x) :: br) (st) M Q) : hg_WP l E d Y mc ms pc (b0 :: b1 :: b2 :: b3 :: b4 :: b5 :: br0 :: br) (.ref x :: st) M Q := by
  intro p e R s m args below meth c H locs cells slots Z ls hF hK hR hP hS hL hz hret
  obtain ⟨hd, rfl⟩ := hd
  obtain ⟨h0, lv, h1, h2⟩ := id hL
  exact lv_astore hF.1 hF.2.1 hd h1 (hL.lt (i := 6) rfl) rfl (fun ls' h3 => k p e R s m args below meth c H locs cells slots Z ls' hF hK hR hP hS (hg_lok.put h0 h2 (i := 6) (fun w _ hw => by have e : b5 = some w := Option.some.inj hw; subst e; exact beq_iff_eq.mp hb) h3) hz hret)
theorem hg_astoreN6 {b0 b1 b2 b3 b4 b5 br0 : Option Value} {br : List (Option Value)} (hd : hg_D Y pc pc' 2 (.astore 6)) (hb : hg_c1 b5 = true) (k : hg_WP l E d Y mc ms pc' (b0 :: b1 :: b2 :: b3 :: b4 :: b5 :: some (.null) :: br) (st) M Q) : hg_WP l E d Y mc ms pc (b0 :: b1 :: b2 :: b3 :: b4 :: b5 :: br0 :: br) (.null :: st) M Q := by
  intro p e R s m args below meth c H locs cells slots Z ls hF hK hR hP hS hL hz hret
  obtain ⟨hd, rfl⟩ := hd
  obtain ⟨h0, lv, h1, h2⟩ := id hL
  exact lv_astoreN hF.1 hF.2.1 hd h1 (hL.lt (i := 6) rfl) rfl (fun ls' h3 => k p e R s m args below meth c H locs cells slots Z ls' hF hK hR hP hS (hg_lok.put h0 h2 (i := 6) (fun w _ hw => by have e : b5 = some w := Option.some.inj hw; subst e; exact beq_iff_eq.mp hb) h3) hz hret)
theorem hg_lstore6 {x : Int64} {b0 b1 b2 b3 b4 b5 br0 br1 : Option Value} {br : List (Option Value)} (hd : hg_D Y pc pc' 2 (.lstore 6)) (hb : hg_c1 b5 = true) (k : hg_WP l E d Y mc ms pc' (b0 :: b1 :: b2 :: b3 :: b4 :: b5 :: some (.long x) :: none :: br) (st) M Q) : hg_WP l E d Y mc ms pc (b0 :: b1 :: b2 :: b3 :: b4 :: b5 :: br0 :: br1 :: br) (.long x :: st) M Q := by
  intro p e R s m args below meth c H locs cells slots Z ls hF hK hR hP hS hL hz hret
  obtain ⟨hd, rfl⟩ := hd
  obtain ⟨h0, lv, h1, h2⟩ := id hL
  exact lv_lstore hF.1 hF.2.1 hd h1 (hL.lt (i := 7) rfl) rfl (fun ls' h3 => k p e R s m args below meth c H locs cells slots Z ls' hF hK hR hP hS (hg_lok.putl h0 h2 (i := 6) (fun w _ hw => by have e : b5 = some w := Option.some.inj hw; subst e; exact beq_iff_eq.mp hb) h3) hz hret)
theorem hg_iinc6 {x v : Int32} {n : Int} {b0 b1 b2 b3 b4 b5 : Option Value} {br : List (Option Value)} (hd : hg_D Y pc pc' 3 (.iinc 6 n)) (hb : hg_c1 b5 = true) (hv : x + Int32.ofInt n = v) (k : hg_WP l E d Y mc ms pc' (b0 :: b1 :: b2 :: b3 :: b4 :: b5 :: some (.int v) :: br) (st) M Q) : hg_WP l E d Y mc ms pc (b0 :: b1 :: b2 :: b3 :: b4 :: b5 :: some (.int x) :: br) (st) M Q := by
  intro p e R s m args below meth c H locs cells slots Z ls hF hK hR hP hS hL hz hret
  obtain ⟨hd, rfl⟩ := hd
  obtain ⟨h0, lv, h1, h2⟩ := id hL
  obtain ⟨q, hq⟩ := List.getElem?_of_mem (h2 6 (.int x) rfl)
  exact lv_iinc hF.1 hF.2.1 hd h1 hq hv (hL.lt (i := 6) rfl) rfl (fun ls' h3 => k p e R s m args below meth c H locs cells slots Z ls' hF hK hR hP hS (hg_lok.put h0 h2 (i := 6) (fun w _ hw => by have e : b5 = some w := Option.some.inj hw; subst e; exact beq_iff_eq.mp hb) h3) hz hret)
theorem hg_iload7 {x : Int32} {b0 b1 b2 b3 b4 b5 b6 : Option Value} {br : List (Option Value)} (hd : hg_D Y pc pc' 2 (.iload 7)) (k : hg_WP l E d Y mc ms pc' (b0 :: b1 :: b2 :: b3 :: b4 :: b5 :: b6 :: some (.int x) :: br) (.int x :: st) M Q) : hg_WP l E d Y mc ms pc (b0 :: b1 :: b2 :: b3 :: b4 :: b5 :: b6 :: some (.int x) :: br) (st) M Q := by
  intro p e R s m args below meth c H locs cells slots Z ls hF hK hR hP hS hL hz hret
  obtain ⟨hd, rfl⟩ := hd
  exact lv_iload hF.1 hF.2.1 hd (hL.get (i := 7) rfl) (k p e R s m args below meth c H locs cells slots Z ls hF hK hR hP hS hL hz hret)
theorem hg_lload7 {x : Int64} {b0 b1 b2 b3 b4 b5 b6 : Option Value} {br : List (Option Value)} (hd : hg_D Y pc pc' 2 (.lload 7)) (k : hg_WP l E d Y mc ms pc' (b0 :: b1 :: b2 :: b3 :: b4 :: b5 :: b6 :: some (.long x) :: br) (.long x :: st) M Q) : hg_WP l E d Y mc ms pc (b0 :: b1 :: b2 :: b3 :: b4 :: b5 :: b6 :: some (.long x) :: br) (st) M Q := by
  intro p e R s m args below meth c H locs cells slots Z ls hF hK hR hP hS hL hz hret
  obtain ⟨hd, rfl⟩ := hd
  exact lv_lload hF.1 hF.2.1 hd (hL.get (i := 7) rfl) (k p e R s m args below meth c H locs cells slots Z ls hF hK hR hP hS hL hz hret)
theorem hg_aload7 {x : Nat} {b0 b1 b2 b3 b4 b5 b6 : Option Value} {br : List (Option Value)} (hd : hg_D Y pc pc' 2 (.aload 7)) (k : hg_WP l E d Y mc ms pc' (b0 :: b1 :: b2 :: b3 :: b4 :: b5 :: b6 :: some (.ref x) :: br) (.ref x :: st) M Q) : hg_WP l E d Y mc ms pc (b0 :: b1 :: b2 :: b3 :: b4 :: b5 :: b6 :: some (.ref x) :: br) (st) M Q := by
  intro p e R s m args below meth c H locs cells slots Z ls hF hK hR hP hS hL hz hret
  obtain ⟨hd, rfl⟩ := hd
  exact lv_aload hF.1 hF.2.1 hd (hL.get (i := 7) rfl) (k p e R s m args below meth c H locs cells slots Z ls hF hK hR hP hS hL hz hret)
theorem hg_istore7 {x : Int32} {b0 b1 b2 b3 b4 b5 b6 br0 : Option Value} {br : List (Option Value)} (hd : hg_D Y pc pc' 2 (.istore 7)) (hb : hg_c1 b6 = true) (k : hg_WP l E d Y mc ms pc' (b0 :: b1 :: b2 :: b3 :: b4 :: b5 :: b6 :: some (.int x) :: br) (st) M Q) : hg_WP l E d Y mc ms pc (b0 :: b1 :: b2 :: b3 :: b4 :: b5 :: b6 :: br0 :: br) (.int x :: st) M Q := by
  intro p e R s m args below meth c H locs cells slots Z ls hF hK hR hP hS hL hz hret
  obtain ⟨hd, rfl⟩ := hd
  obtain ⟨h0, lv, h1, h2⟩ := id hL
  exact lv_istore hF.1 hF.2.1 hd h1 (hL.lt (i := 7) rfl) rfl (fun ls' h3 => k p e R s m args below meth c H locs cells slots Z ls' hF hK hR hP hS (hg_lok.put h0 h2 (i := 7) (fun w _ hw => by have e : b6 = some w := Option.some.inj hw; subst e; exact beq_iff_eq.mp hb) h3) hz hret)
theorem hg_astore7 {x : Nat} {b0 b1 b2 b3 b4 b5 b6 br0 : Option Value} {br : List (Option Value)} (hd : hg_D Y pc pc' 2 (.astore 7)) (hb : hg_c1 b6 = true) (k : hg_WP l E d Y mc ms pc' (b0 :: b1 :: b2 :: b3 :: b4 :: b5 :: b6 :: some (.ref x) :: br) (st) M Q) : hg_WP l E d Y mc ms pc (b0 :: b1 :: b2 :: b3 :: b4 :: b5 :: b6 :: br0 :: br) (.ref x :: st) M Q := by
  intro p e R s m args below meth c H locs cells slots Z ls hF hK hR hP hS hL hz hret
  obtain ⟨hd, rfl⟩ := hd
  obtain ⟨h0, lv, h1, h2⟩ := id hL
  exact lv_astore hF.1 hF.2.1 hd h1 (hL.lt (i := 7) rfl) rfl (fun ls' h3 => k p e R s m args below meth c H locs cells slots Z ls' hF hK hR hP hS (hg_lok.put h0 h2 (i := 7) (fun w _ hw => by have e : b6 = some w := Option.some.inj hw; subst e; exact beq_iff_eq.mp hb) h3) hz hret)
theorem hg_astoreN7 {b0 b1 b2 b3 b4 b5 b6 br0 : Option Value} {br : List (Option Value)} (hd : hg_D Y pc pc' 2 (.astore 7)) (hb : hg_c1 b6 = true) (k : hg_WP l E d Y mc ms pc' (b0 :: b1 :: b2 :: b3 :: b4 :: b5 :: b6 :: some (.null) :: br) (st) M Q) : hg_WP l E d Y mc ms pc (b0 :: b1 :: b2 :: b3 :: b4 :: b5 :: b6 :: br0 :: br) (.null :: st) M Q := by
  intro p e R s m args below meth c H locs cells slots Z ls hF hK hR hP hS hL hz hret
  obtain ⟨hd, rfl⟩ := hd
  obtain ⟨h0, lv, h1, h2⟩ := id hL
  exact lv_astoreN hF.1 hF.2.1 hd h1 (hL.lt (i := 7) rfl) rfl (fun ls' h3 => k p e R s m args below meth c H locs cells slots Z ls' hF hK hR hP hS (hg_lok.put h0 h2 (i := 7) (fun w _ hw => by have e : b6 = some w := Option.some.inj hw; subst e; exact beq_iff_eq.mp hb) h3) hz hret)
theorem hg_lstore7 {x : Int64} {b0 b1 b2 b3 b4 b5 b6 br0 br1 : Option Value} {br : List (Option Value)} (hd : hg_D Y pc pc' 2 (.lstore 7)) (hb : hg_c1 b6 = true) (k : hg_WP l E d Y mc ms pc' (b0 :: b1 :: b2 :: b3 :: b4 :: b5 :: b6 :: some (.long x) :: none :: br) (st) M Q) : hg_WP l E d Y mc ms pc (b0 :: b1 :: b2 :: b3 :: b4 :: b5 :: b6 :: br0 :: br1 :: br) (.long x :: st) M Q := by
  intro p e R s m args below meth c H locs cells slots Z ls hF hK hR hP hS hL hz hret
  obtain ⟨hd, rfl⟩ := hd
  obtain ⟨h0, lv, h1, h2⟩ := id hL
  exact lv_lstore hF.1 hF.2.1 hd h1 (hL.lt (i := 8) rfl) rfl (fun ls' h3 => k p e R s m args below meth c H locs cells slots Z ls' hF hK hR hP hS (hg_lok.putl h0 h2 (i := 7) (fun w _ hw => by have e : b6 = some w := Option.some.inj hw; subst e; exact beq_iff_eq.mp hb) h3) hz hret)
theorem hg_iinc7 {x v : Int32} {n : Int} {b0 b1 b2 b3 b4 b5 b6 : Option Value} {br : List (Option Value)} (hd : hg_D Y pc pc' 3 (.iinc 7 n)) (hb : hg_c1 b6 = true) (hv : x + Int32.ofInt n = v) (k : hg_WP l E d Y mc ms pc' (b0 :: b1 :: b2 :: b3 :: b4 :: b5 :: b6 :: some (.int v) :: br) (st) M Q) : hg_WP l E d Y mc ms pc (b0 :: b1 :: b2 :: b3 :: b4 :: b5 :: b6 :: some (.int x) :: br) (st) M Q := by
  intro p e R s m args below meth c H locs cells slots Z ls hF hK hR hP hS hL hz hret
  obtain ⟨hd, rfl⟩ := hd
  obtain ⟨h0, lv, h1, h2⟩ := id hL
  obtain ⟨q, hq⟩ := List.getElem?_of_mem (h2 7 (.int x) rfl)
  exact lv_iinc hF.1 hF.2.1 hd h1 hq hv (hL.lt (i := 7) rfl) rfl (fun ls' h3 => k p e R s m args below meth c H locs cells slots Z ls' hF hK hR hP hS (hg_lok.put h0 h2 (i := 7) (fun w _ hw => by have e : b6 = some w := Option.some.inj hw; subst e; exact beq_iff_eq.mp hb) h3) hz hret)
theorem hg_iload8 {x : Int32} {b0 b1 b2 b3 b4 b5 b6 b7 : Option Value} {br : List (Option Value)} (hd : hg_D Y pc pc' 2 (.iload 8)) (k : hg_WP l E d Y mc ms pc' (b0 :: b1 :: b2 :: b3 :: b4 :: b5 :: b6 :: b7 :: some (.int x) :: br) (.int x :: st) M Q) : hg_WP l E d Y mc ms pc (b0 :: b1 :: b2 :: b3 :: b4 :: b5 :: b6 :: b7 :: some (.int x) :: br) (st) M Q := by
  intro p e R s m args below meth c H locs cells slots Z ls hF hK hR hP hS hL hz hret
  obtain ⟨hd, rfl⟩ := hd
  exact lv_iload hF.1 hF.2.1 hd (hL.get (i := 8) rfl) (k p e R s m args below meth c H locs cells slots Z ls hF hK hR hP hS hL hz hret)
theorem hg_lload8 {x : Int64} {b0 b1 b2 b3 b4 b5 b6 b7 : Option Value} {br : List (Option Value)} (hd : hg_D Y pc pc' 2 (.lload 8)) (k : hg_WP l E d Y mc ms pc' (b0 :: b1 :: b2 :: b3 :: b4 :: b5 :: b6 :: b7 :: some (.long x) :: br) (.long x :: st) M Q) : hg_WP l E d Y mc ms pc (b0 :: b1 :: b2 :: b3 :: b4 :: b5 :: b6 :: b7 :: some (.long x) :: br) (st) M Q := by
  intro p e R s m args below meth c H locs cells slots Z ls hF hK hR hP hS hL hz hret
  obtain ⟨hd, rfl⟩ := hd
  exact lv_lload hF.1 hF.2.1 hd (hL.get (i := 8) rfl) (k p e R s m args below meth c H locs cells slots Z ls hF hK hR hP hS hL hz hret)
theorem hg_aload8 {x : Nat} {b0 b1 b2 b3 b4 b5 b6 b7 : Option Value} {br : List (Option Value)} (hd : hg_D Y pc pc' 2 (.aload 8)) (k : hg_WP l E d Y mc ms pc' (b0 :: b1 :: b2 :: b3 :: b4 :: b5 :: b6 :: b7 :: some (.ref x) :: br) (.ref x :: st) M Q) : hg_WP l E d Y mc ms pc (b0 :: b1 :: b2 :: b3 :: b4 :: b5 :: b6 :: b7 :: some (.ref x) :: br) (st) M Q := by
  intro p e R s m args below meth c H locs cells slots Z ls hF hK hR hP hS hL hz hret
  obtain ⟨hd, rfl⟩ := hd
  exact lv_aload hF.1 hF.2.1 hd (hL.get (i := 8) rfl) (k p e R s m args below meth c H locs cells slots Z ls hF hK hR hP hS hL hz hret)
theorem hg_istore8 {x : Int32} {b0 b1 b2 b3 b4 b5 b6 b7 br0 : Option Value} {br : List (Option Value)} (hd : hg_D Y pc pc' 2 (.istore 8)) (hb : hg_c1 b7 = true) (k : hg_WP l E d Y mc ms pc' (b0 :: b1 :: b2 :: b3 :: b4 :: b5 :: b6 :: b7 :: some (.int x) :: br) (st) M Q) : hg_WP l E d Y mc ms pc (b0 :: b1 :: b2 :: b3 :: b4 :: b5 :: b6 :: b7 :: br0 :: br) (.int x :: st) M Q := by
  intro p e R s m args below meth c H locs cells slots Z ls hF hK hR hP hS hL hz hret
  obtain ⟨hd, rfl⟩ := hd
  obtain ⟨h0, lv, h1, h2⟩ := id hL
  exact lv_istore hF.1 hF.2.1 hd h1 (hL.lt (i := 8) rfl) rfl (fun ls' h3 => k p e R s m args below meth c H locs cells slots Z ls' hF hK hR hP hS (hg_lok.put h0 h2 (i := 8) (fun w _ hw => by have e : b7 = some w := Option.some.inj hw; subst e; exact beq_iff_eq.mp hb) h3) hz hret)
theorem hg_astore8 {x : Nat} {b0 b1 b2 b3 b4 b5 b6 b7 br0 : Option Value} {br : List (Option Value)} (hd : hg_D Y pc pc' 2 (.astore 8)) (hb : hg_c1 b7 = true) (k : hg_WP l E d Y mc ms pc' (b0 :: b1 :: b2 :: b3 :: b4 :: b5 :: b6 :: b7 :: some (.ref x) :: br) (st) M Q) : hg_WP l E d Y mc ms pc (b0 :: b1 :: b2 :: b3 :: b4 :: b5 :: b6 :: b7 :: br0 :: br) (.ref x :: st) M Q := by
  intro p e R s m args below meth c H locs cells slots Z ls hF hK hR hP hS hL hz hret
  obtain ⟨hd, rfl⟩ := hd
  obtain ⟨h0, lv, h1, h2⟩ := id hL
  exact lv_astore hF.1 hF.2.1 hd h1 (hL.lt (i := 8) rfl) rfl (fun ls' h3 => k p e R s m args below meth c H locs cells slots Z ls' hF hK hR hP hS (hg_lok.put h0 h2 (i := 8) (fun w _ hw => by have e : b7 = some w := Option.some.inj hw; subst e; exact beq_iff_eq.mp hb) h3) hz hret)
theorem hg_astoreN8 {b0 b1 b2 b3 b4 b5 b6 b7 br0 : Option Value} {br : List (Option Value)} (hd : hg_D Y pc pc' 2 (.astore 8)) (hb : hg_c1 b7 = true) (k : hg_WP l E d Y mc ms pc' (b0 :: b1 :: b2 :: b3 :: b4 :: b5 :: b6 :: b7 :: some (.null) :: br) (st) M Q) : hg_WP l E d Y mc ms pc (b0 :: b1 :: b2 :: b3 :: b4 :: b5 :: b6 :: b7 :: br0 :: br) (.null :: st) M Q := by
  intro p e R s m args below meth c H locs cells slots Z ls hF hK hR hP hS hL hz hret
  obtain ⟨hd, rfl⟩ := hd
  obtain ⟨h0, lv, h1, h2⟩ := id hL
  exact lv_astoreN hF.1 hF.2.1 hd h1 (hL.lt (i := 8) rfl) rfl (fun ls' h3 => k p e R s m args below meth c H locs cells slots Z ls' hF hK hR hP hS (hg_lok.put h0 h2 (i := 8) (fun w _ hw => by have e : b7 = some w := Option.some.inj hw; subst e; exact beq_iff_eq.mp hb) h3) hz hret)
theorem hg_lstore8 {x : Int64} {b0 b1 b2 b3 b4 b5 b6 b7 br0 br1 : Option Value} {br : List (Option Value)} (hd : hg_D Y pc pc' 2 (.lstore 8)) (hb : hg_c1 b7 = true) (k : hg_WP l E d Y mc ms pc' (b0 :: b1 :: b2 :: b3 :: b4 :: b5 :: b6 :: b7 :: some (.long x) :: none :: br) (st) M Q) : hg_WP l E d Y mc ms pc (b0 :: b1 :: b2 :: b3 :: b4 :: b5 :: b6 :: b7 :: br0 :: br1 :: br) (.long x :: st) M Q := by
  intro p e R s m args below meth c H locs cells slots Z ls hF hK hR hP hS hL hz hret
  obtain ⟨hd, rfl⟩ := hd
  obtain ⟨h0, lv, h1, h2⟩ := id hL
  exact lv_lstore hF.1 hF.2.1 hd h1 (hL.lt (i := 9) rfl) rfl (fun ls' h3 => k p e R s m args below meth c H locs cells slots Z ls' hF hK hR hP hS (hg_lok.putl h0 h2 (i := 8) (fun w _ hw => by have e : b7 = some w := Option.some.inj hw; subst e; exact beq_iff_eq.mp hb) h3) hz hret)
theorem hg_iinc8 {x v : Int32} {n : Int} {b0 b1 b2 b3 b4 b5 b6 b7 : Option Value} {br : List (Option Value)} (hd : hg_D Y pc pc' 3 (.iinc 8 n)) (hb : hg_c1 b7 = true) (hv : x + Int32.ofInt n = v) (k : hg_WP l E d Y mc ms pc' (b0 :: b1 :: b2 :: b3 :: b4 :: b5 :: b6 :: b7 :: some (.int v) :: br) (st) M Q) : hg_WP l E d Y mc ms pc (b0 :: b1 :: b2 :: b3 :: b4 :: b5 :: b6 :: b7 :: some (.int x) :: br) (st) M Q := by
  intro p e R s m args below meth c H locs cells slots Z ls hF hK hR hP hS hL hz hret
  obtain ⟨hd, rfl⟩ := hd
  obtain ⟨h0, lv, h1, h2⟩ := id hL
  obtain ⟨q, hq⟩ := List.getElem?_of_mem (h2 8 (.int x) rfl)
  exact lv_iinc hF.1 hF.2.1 hd h1 hq hv (hL.lt (i := 8) rfl) rfl (fun ls' h3 => k p e R s m args below meth c H locs cells slots Z ls' hF hK hR hP hS (hg_lok.put h0 h2 (i := 8) (fun w _ hw => by have e : b7 = some w := Option.some.inj hw; subst e; exact beq_iff_eq.mp hb) h3) hz hret)
theorem hg_iload9 {x : Int32} {b0 b1 b2 b3 b4 b5 b6 b7 b8 : Option Value} {br : List (Option Value)} (hd : hg_D Y pc pc' 2 (.iload 9)) (k : hg_WP l E d Y mc ms pc' (b0 :: b1 :: b2 :: b3 :: b4 :: b5 :: b6 :: b7 :: b8 :: some (.int x) :: br) (.int x :: st) M Q) : hg_WP l E d Y mc ms pc (b0 :: b1 :: b2 :: b3 :: b4 :: b5 :: b6 :: b7 :: b8 :: some (.int x) :: br) (st) M Q := by
  intro p e R s m args below meth c H locs cells slots Z ls hF hK hR hP hS hL hz hret
  obtain ⟨hd, rfl⟩ := hd
  exact lv_iload hF.1 hF.2.1 hd (hL.get (i := 9) rfl) (k p e R s m args below meth c H locs cells slots Z ls hF hK hR hP hS hL hz hret)
theorem hg_lload9 {x : Int64} {b0 b1 b2 b3 b4 b5 b6 b7 b8 : Option Value} {br : List (Option Value)} (hd : hg_D Y pc pc' 2 (.lload 9)) (k : hg_WP l E d Y mc ms pc' (b0 :: b1 :: b2 :: b3 :: b4 :: b5 :: b6 :: b7 :: b8 :: some (.long x) :: br) (.long x :: st) M Q) : hg_WP l E d Y mc ms pc (b0 :: b1 :: b2 :: b3 :: b4 :: b5 :: b6 :: b7 :: b8 :: some (.long x) :: br) (st) M Q := by
  intro p e R s m args below meth c H locs cells slots Z ls hF hK hR hP hS hL hz hret
  obtain ⟨hd, rfl⟩ := hd
  exact lv_lload hF.1 hF.2.1 hd (hL.get (i := 9) rfl) (k p e R s m args below meth c H locs cells slots Z ls hF hK hR hP hS hL hz hret)
theorem hg_aload9 {x : Nat} {b0 b1 b2 b3 b4 b5 b6 b7 b8 : Option Value} {br : List (Option Value)} (hd : hg_D Y pc pc' 2 (.aload 9)) (k : hg_WP l E d Y mc ms pc' (b0 :: b1 :: b2 :: b3 :: b4 :: b5 :: b6 :: b7 :: b8 :: some (.ref x) :: br) (.ref x :: st) M Q) : hg_WP l E d Y mc ms pc (b0 :: b1 :: b2 :: b3 :: b4 :: b5 :: b6 :: b7 :: b8 :: some (.ref x) :: br) (st) M Q := by
  intro p e R s m args below meth c H locs cells slots Z ls hF hK hR hP hS hL hz hret
  obtain ⟨hd, rfl⟩ := hd
  exact lv_aload hF.1 hF.2.1 hd (hL.get (i := 9) rfl) (k p e R s m args below meth c H locs cells slots Z ls hF hK hR hP hS hL hz hret)
theorem hg_istore9 {x : Int32} {b0 b1 b2 b3 b4 b5 b6 b7 b8 br0 : Option Value} {br : List (Option Value)} (hd : hg_D Y pc pc' 2 (.istore 9)) (hb : hg_c1 b8 = true) (k : hg_WP l E d Y mc ms pc' (b0 :: b1 :: b2 :: b3 :: b4 :: b5 :: b6 :: b7 :: b8 :: some (.int x) :: br) (st) M Q) : hg_WP l E d Y mc ms pc (b0 :: b1 :: b2 :: b3 :: b4 :: b5 :: b6 :: b7 :: b8 :: br0 :: br) (.int x :: st) M Q := by
  intro p e R s m args below meth c H locs cells slots Z ls hF hK hR hP hS hL hz hret
  obtain ⟨hd, rfl⟩ := hd
  obtain ⟨h0, lv, h1, h2⟩ := id hL
  exact lv_istore hF.1 hF.2.1 hd h1 (hL.lt (i := 9) rfl) rfl (fun ls' h3 => k p e R s m args below meth c H locs cells slots Z ls' hF hK hR hP hS (hg_lok.put h0 h2 (i := 9) (fun w _ hw => by have e : b8 = some w := Option.some.inj hw; subst e; exact beq_iff_eq.mp hb) h3) hz hret)
theorem hg_astore9 {x : Nat} {b0 b1 b2 b3 b4 b5 b6 b7 b8 br0 : Option Value} {br : List (Option Value)} (hd : hg_D Y pc pc' 2 (.astore 9)) (hb : hg_c1 b8 = true) (k : hg_WP l E d Y mc ms pc' (b0 :: b1 :: b2 :: b3 :: b4 :: b5 :: b6 :: b7 :: b8 :: some (.ref x) :: br) (st) M Q) : hg_WP l E d Y mc ms pc (b0 :: b1 :: b2 :: b3 :: b4 :: b5 :: b6 :: b7 :: b8 :: br0 :: br) (.ref x :: st) M Q := by
  intro p e R s m args below meth c H locs cells slots Z ls hF hK hR hP hS hL hz hret
  obtain ⟨hd, rfl⟩ := hd
  obtain ⟨h0, lv, h1, h2⟩ := id hL
  exact lv_astore hF.1 hF.2.1 hd h1 (hL.lt (i := 9) rfl) rfl (fun ls' h3 => k p e R s m args below meth c H locs cells slots Z ls' hF hK hR hP hS (hg_lok.put h0 h2 (i := 9) (fun w _ hw => by have e : b8 = some w := Option.some.inj hw; subst e; exact beq_iff_eq.mp hb) h3) hz hret)
theorem hg_astoreN9 {b0 b1 b2 b3 b4 b5 b6 b7 b8 br0 : Option Value} {br : List (Option Value)} (hd : hg_D Y pc pc' 2 (.astore 9)) (hb : hg_c1 b8 = true) (k : hg_WP l E d Y mc ms pc' (b0 :: b1 :: b2 :: b3 :: b4 :: b5 :: b6 :: b7 :: b8 :: some (.null) :: br) (st) M Q) : hg_WP l E d Y mc ms pc (b0 :: b1 :: b2 :: b3 :: b4 :: b5 :: b6 :: b7 :: b8 :: br0 :: br) (.null :: st) M Q := by
  intro p e R s m args below meth c H locs cells slots Z ls hF hK hR hP hS hL hz hret
  obtain ⟨hd, rfl⟩ := hd
  obtain ⟨h0, lv, h1, h2⟩ := id hL
  exact lv_astoreN hF.1 hF.2.1 hd h1 (hL.lt (i := 9) rfl) rfl (fun ls' h3 => k p e R s m args below meth c H locs cells slots Z ls' hF hK hR hP hS (hg_lok.put h0 h2 (i := 9) (fun w _ hw => by have e : b8 = some w := Option.some.inj hw; subst e; exact beq_iff_eq.mp hb) h3) hz hret)
theorem hg_lstore9 {x : Int64} {b0 b1 b2 b3 b4 b5 b6 b7 b8 br0 br1 : Option Value} {br : List (Option Value)} (hd : hg_D Y pc pc' 2 (.lstore 9)) (hb : hg_c1 b8 = true) (k : hg_WP l E d Y mc ms pc' (b0 :: b1 :: b2 :: b3 :: b4 :: b5 :: b6 :: b7 :: b8 :: some (.long x) :: none :: br) (st) M Q) : hg_WP l E d Y mc ms pc (b0 :: b1 :: b2 :: b3 :: b4 :: b5 :: b6 :: b7 :: b8 :: br0 :: br1 :: br) (.long x :: st) M Q := by
  intro p e R s m args below meth c H locs cells slots Z ls hF hK hR hP hS hL hz hret
  obtain ⟨hd, rfl⟩ := hd
  obtain ⟨h0, lv, h1, h2⟩ := id hL
  exact lv_lstore hF.1 hF.2.1 hd h1 (hL.lt (i := 10) rfl) rfl (fun ls' h3 => k p e R s m args below meth c H locs cells slots Z ls' hF hK hR hP hS (hg_lok.putl h0 h2 (i := 9) (fun w _ hw => by have e : b8 = some w := Option.some.inj hw; subst e; exact beq_iff_eq.mp hb) h3) hz hret)
theorem hg_iinc9 {x v : Int32} {n : Int} {b0 b1 b2 b3 b4 b5 b6 b7 b8 : Option Value} {br : List (Option Value)} (hd : hg_D Y pc pc' 3 (.iinc 9 n)) (hb : hg_c1 b8 = true) (hv : x + Int32.ofInt n = v) (k : hg_WP l E d Y mc ms pc' (b0 :: b1 :: b2 :: b3 :: b4 :: b5 :: b6 :: b7 :: b8 :: some (.int v) :: br) (st) M Q) : hg_WP l E d Y mc ms pc (b0 :: b1 :: b2 :: b3 :: b4 :: b5 :: b6 :: b7 :: b8 :: some (.int x) :: br) (st) M Q := by
  intro p e R s m args below meth c H locs cells slots Z ls hF hK hR hP hS hL hz hret
  obtain ⟨hd, rfl⟩ := hd
  obtain ⟨h0, lv, h1, h2⟩ := id hL
  obtain ⟨q, hq⟩ := List.getElem?_of_mem (h2 9 (.int x) rfl)
  exact lv_iinc hF.1 hF.2.1 hd h1 hq hv (hL.lt (i := 9) rfl) rfl (fun ls' h3 => k p e R s m args below meth c H locs cells slots Z ls' hF hK hR hP hS (hg_lok.put h0 h2 (i := 9) (fun w _ hw => by have e : b8 = some w := Option.some.inj hw; subst e; exact beq_iff_eq.mp hb) h3) hz hret)
theorem hg_iload10 {x : Int32} {b0 b1 b2 b3 b4 b5 b6 b7 b8 b9 : Option Value} {br : List (Option Value)} (hd : hg_D Y pc pc' 2 (.iload 10)) (k : hg_WP l E d Y mc ms pc' (b0 :: b1 :: b2 :: b3 :: b4 :: b5 :: b6 :: b7 :: b8 :: b9 :: some (.int x) :: br) (.int x :: st) M Q) : hg_WP l E d Y mc ms pc (b0 :: b1 :: b2 :: b3 :: b4 :: b5 :: b6 :: b7 :: b8 :: b9 :: some (.int x) :: br) (st) M Q := by
  intro p e R s m args below meth c H locs cells slots Z ls hF hK hR hP hS hL hz hret
  obtain ⟨hd, rfl⟩ := hd
  exact lv_iload hF.1 hF.2.1 hd (hL.get (i := 10) rfl) (k p e R s m args below meth c H locs cells slots Z ls hF hK hR hP hS hL hz hret)
theorem hg_lload10 {x : Int64} {b0 b1 b2 b3 b4 b5 b6 b7 b8 b9 : Option Value} {br : List (Option Value)} (hd : hg_D Y pc pc' 2 (.lload 10)) (k : hg_WP l E d Y mc ms pc' (b0 :: b1 :: b2 :: b3 :: b4 :: b5 :: b6 :: b7 :: b8 :: b9 :: some (.long x) :: br) (.long x :: st) M Q) : hg_WP l E d Y mc ms pc (b0 :: b1 :: b2 :: b3 :: b4 :: b5 :: b6 :: b7 :: b8 :: b9 :: some (.long x) :: br) (st) M Q := by
  intro p e R s m args below meth c H locs cells slots Z ls hF hK hR hP hS hL hz hret
  obtain ⟨hd, rfl⟩ := hd
  exact lv_lload hF.1 hF.2.1 hd (hL.get (i := 10) rfl) (k p e R s m args below meth c H locs cells slots Z ls hF hK hR hP hS hL hz hret)
theorem hg_aload10 {x : Nat} {b0 b1 b2 b3 b4 b5 b6 b7 b8 b9 : Option Value} {br : List (Option Value)} (hd : hg_D Y pc pc' 2 (.aload 10)) (k : hg_WP l E d Y mc ms pc' (b0 :: b1 :: b2 :: b3 :: b4 :: b5 :: b6 :: b7 :: b8 :: b9 :: some (.ref x) :: br) (.ref x :: st) M Q) : hg_WP l E d Y mc ms pc (b0 :: b1 :: b2 :: b3 :: b4 :: b5 :: b6 :: b7 :: b8 :: b9 :: some (.ref x) :: br) (st) M Q := by
  intro p e R s m args below meth c H locs cells slots Z ls hF hK hR hP hS hL hz hret
  obtain ⟨hd, rfl⟩ := hd
  exact lv_aload hF.1 hF.2.1 hd (hL.get (i := 10) rfl) (k p e R s m args below meth c H locs cells slots Z ls hF hK hR hP hS hL hz hret)
theorem hg_istore10 {x : Int32} {b0 b1 b2 b3 b4 b5 b6 b7 b8 b9 br0 : Option Value} {br : List (Option Value)} (hd : hg_D Y pc pc' 2 (.istore 10)) (hb : hg_c1 b9 = true) (k : hg_WP l E d Y mc ms pc' (b0 :: b1 :: b2 :: b3 :: b4 :: b5 :: b6 :: b7 :: b8 :: b9 :: some (.int x) :: br) (st) M Q) : hg_WP l E d Y mc ms pc (b0 :: b1 :: b2 :: b3 :: b4 :: b5 :: b6 :: b7 :: b8 :: b9 :: br0 :: br) (.int x :: st) M Q := by
  intro p e R s m args below meth c H locs cells slots Z ls hF hK hR hP hS hL hz hret
  obtain ⟨hd, rfl⟩ := hd
  obtain ⟨h0, lv, h1, h2⟩ := id hL
  exact lv_istore hF.1 hF.2.1 hd h1 (hL.lt (i := 10) rfl) rfl (fun ls' h3 => k p e R s m args below meth c H locs cells slots Z ls' hF hK hR hP hS (hg_lok.put h0 h2 (i := 10) (fun w _ hw => by have e : b9 = some w := Option.some.inj hw; subst e; exact beq_iff_eq.mp hb) h3) hz hret)
theorem hg_astore10 {x : Nat} {b0 b1 b2 b3 b4 b5 b6 b7 b8 b9 br0 : Option Value} {br : List (Option Value)} (hd : hg_D Y pc pc' 2 (.astore 10)) (hb : hg_c1 b9 = true) (k : hg_WP l E d Y mc ms pc' (b0 :: b1 :: b2 :: b3 :: b4 :: b5 :: b6 :: b7 :: b8 :: b9 :: some (.ref x) :: br) (st) M Q) : hg_WP l E d Y mc ms pc (b0 :: b1 :: b2 :: b3 :: b4 :: b5 :: b6 :: b7 :: b8 :: b9 :: br0 :: br) (.ref x :: st) M Q := by
  intro p e R s m args below meth c H locs cells slots Z ls hF hK hR hP hS hL hz hret
  obtain ⟨hd, rfl⟩ := hd
  obtain ⟨h0, lv, h1, h2⟩ := id hL
  exact lv_astore hF.1 hF.2.1 hd h1 (hL.lt (i := 10) rfl) rfl (fun ls' h3 => k p e R s m args below meth c H locs cells slots Z ls' hF hK hR hP hS (hg_lok.put h0 h2 (i := 10) (fun w _ hw => by have e : b9 = some w := Option.some.inj hw; subst e; exact beq_iff_eq.mp hb) h3) hz hret)
theorem hg_astoreN10 {b0 b1 b2 b3 b4 b5 b6 b7 b8 b9 br0 : Option Value} {br : List (Option Value)} (hd : hg_D Y pc pc' 2 (.astore 10)) (hb : hg_c1 b9 = true) (k : hg_WP l E d Y mc ms pc' (b0 :: b1 :: b2 :: b3 :: b4 :: b5 :: b6 :: b7 :: b8 :: b9 :: some (.null) :: br) (st) M Q) : hg_WP l E d Y mc ms pc (b0 :: b1 :: b2 :: b3 :: b4 :: b5 :: b6 :: b7 :: b8 :: b9 :: br0 :: br) (.null :: st) M Q := by
  intro p e R s m args below meth c H locs cells slots Z ls hF hK hR hP hS hL hz hret
  obtain ⟨hd, rfl⟩ := hd
  obtain ⟨h0, lv, h1, h2⟩ := id hL
  exact lv_astoreN hF.1 hF.2.1 hd h1 (hL.lt (i := 10) rfl) rfl (fun ls' h3 => k p e R s m args below meth c H locs cells slots Z ls' hF hK hR hP hS (hg_lok.put h0 h2 (i := 10) (fun w _ hw => by have e : b9 = some w := Option.some.inj hw; subst e; exact beq_iff_eq.mp hb) h3) hz hret)
theorem hg_lstore10 {x : Int64} {b0 b1 b2 b3 b4 b5 b6 b7 b8 b9 br0 br1 : Option Value} {br : List (Option Value)} (hd : hg_D Y pc pc' 2 (.lstore 10)) (hb : hg_c1 b9 = true) (k : hg_WP l E d Y mc ms pc' (b0 :: b1 :: b2 :: b3 :: b4 :: b5 :: b6 :: b7 :: b8 :: b9 :: some (.long x) :: none :: br) (st) M Q) : hg_WP l E d Y mc ms pc (b0 :: b1 :: b2 :: b3 :: b4 :: b5 :: b6 :: b7 :: b8 :: b9 :: br0 :: br1 :: br) (.long x :: st) M Q := by
  intro p e R s m args below meth c H locs cells slots Z ls hF hK hR hP hS hL hz hret
  obtain ⟨hd, rfl⟩ := hd
  obtain ⟨h0, lv, h1, h2⟩ := id hL
  exact lv_lstore hF.1 hF.2.1 hd h1 (hL.lt (i := 11) rfl) rfl (fun ls' h3 => k p e R s m args below meth c H locs cells slots Z ls' hF hK hR hP hS (hg_lok.putl h0 h2 (i := 10) (fun w _ hw => by have e : b9 = some w := Option.some.inj hw; subst e; exact beq_iff_eq.mp hb) h3) hz hret)
theorem hg_iinc10 {x v : Int32} {n : Int} {b0 b1 b2 b3 b4 b5 b6 b7 b8 b9 : Option Value} {br : List (Option Value)} (hd : hg_D Y pc pc' 3 (.iinc 10 n)) (hb : hg_c1 b9 = true) (hv : x + Int32.ofInt n = v) (k : hg_WP l E d Y mc ms pc' (b0 :: b1 :: b2 :: b3 :: b4 :: b5 :: b6 :: b7 :: b8 :: b9 :: some (.int v) :: br) (st) M Q) : hg_WP l E d Y mc ms pc (b0 :: b1 :: b2 :: b3 :: b4 :: b5 :: b6 :: b7 :: b8 :: b9 :: some (.int x) :: br) (st) M Q := by
  intro p e R s m args below meth c H locs cells slots Z ls hF hK hR hP hS hL hz hret
  obtain ⟨hd, rfl⟩ := hd
  obtain ⟨h0, lv, h1, h2⟩ := id hL
  obtain ⟨q, hq⟩ := List.getElem?_of_mem (h2 10 (.int x) rfl)
  exact lv_iinc hF.1 hF.2.1 hd h1 hq hv (hL.lt (i := 10) rfl) rfl (fun ls' h3 => k p e R s m args below meth c H locs cells slots Z ls' hF hK hR hP hS (hg_lok.put h0 h2 (i := 10) (fun w _ hw => by have e : b9 = some w := Option.some.inj hw; subst e; exact beq_iff_eq.mp hb) h3) hz hret)
-- cells of the memory
theorem hg_fix.ts {p : Program} {Y : hg_Y} {s : State} {m : MethodId} {args : Array Value} {meth : Method} {c : Code} (h : hg_fix p Y s m args meth c) {w : Cond} (hw : w ∈ hg_T) : w.before args s = true := h.2.2.2.2.1 w hw
theorem hg_rep.obj {H : Heap} {k i c : Nat} (h : hg_rep E M H) (hk : hg_cl k = some c) (hi : i < hg_ct M k) : t_OB (hg_ad E k i) (E.1 c) (hg_N c) (E.2.1 c) H (hg_fv E M k i c) := by
  have h1 := h.2.2 k i hi
  unfold hg_cell at h1
  rw [hk] at h1
  exact h1
theorem hg_rep.arr {H : Heap} {k i : Nat} (h : hg_rep E M H) (hk : hg_cl k = none) (hi : i < hg_ct M k) : H[hg_ad E k i]? = some (arrV (hg_cA E (hg_ty k)) (hg_ln M k i) (hg_av E M k i)) := by
  have h1 := h.2.2 k i hi
  unfold hg_cell at h1
  rw [hk] at h1
  exact h1
theorem hg_cell.kept {H H1 : Heap} {k i : Nat} (h : hg_cell E M k i H) (hq : H1[hg_ad E k i]? = H[hg_ad E k i]?) : hg_cell E M k i H1 := by
  unfold hg_cell at h ⊢
  split at h
  · exact h.kept hq
  · rw [hq]; exact h
theorem hg_cell.congr {M' : hg_M} {H : Heap} {k i : Nat} (h : hg_cell E M k i H) (hI : ∀ j, M'.1 k i j = M.1 k i j) (hL : ∀ j, M'.2.1 k i j = M.2.1 k i j) (hR : ∀ j, M'.2.2.1 k i j = M.2.2.1 k i j) (hN : hg_ln M' k i = hg_ln M k i) : hg_cell E M' k i H := by
  have e1 : ∀ c, hg_fv E M' k i c = hg_fv E M k i c := fun c => funext fun j => by simp only [hg_fv, hI, hR]
  have e2 : hg_av E M' k i = hg_av E M k i := funext fun j => by simp only [hg_av, hI, hL, hR]
  unfold hg_cell at h ⊢
  split at h
  · rw [e1]; exact h
  · rw [e2, hN]; exact h
theorem hg_rep.upd {M' : hg_M} {H H1 : Heap} {k i : Nat} (h : hg_rep E M H) (hz : H1.size = H.size) (oq : ∀ q, q ≠ hg_ad E k i → H1[q]? = H[q]?) (hi : i < hg_ct M k) (hX : M'.2.2.2 = M.2.2.2) (hs : ∀ k' i', ¬ (k' = k ∧ i' = i) → (∀ j, M'.1 k' i' j = M.1 k' i' j) ∧ (∀ j, M'.2.1 k' i' j = M.2.1 k' i' j) ∧ ∀ j, M'.2.2.1 k' i' j = M.2.2.1 k' i' j) (hc : hg_cell E M' k i H1) : hg_rep E M' H1 := by
  obtain ⟨h1, h2, h3⟩ := h
  refine ⟨by rw [hz, h1]; show _ = _ + M'.2.2.2.1; rw [hX], fun k' => by show M'.2.2.2.2.1 k' ≤ _; rw [hX]; exact h2 k', fun k' i' hi' => ?_⟩
  have hi2 : i' < hg_ct M k' := by have e : hg_ct M' k' = hg_ct M k' := by show M'.2.2.2.2.1 k' = _; rw [hX]
                                   rw [← e]; exact hi'
  by_cases hq : k' = k ∧ i' = i
  · obtain ⟨rfl, rfl⟩ := hq; exact hc
  · obtain ⟨s1, s2, s3⟩ := hs k' i' hq
    refine ((h3 k' i' hi2).kept (oq _ (fun e => hq ?_))).congr s1 s2 s3 (by show M'.2.2.2.2.2 k' i' = _; rw [hX])
    exact hg_sq_inj (Nat.lt_of_lt_of_le hi2 (h2 k')) (Nat.lt_of_lt_of_le hi (h2 k)) (Nat.add_left_cancel e)
theorem hg_rep.lt {H : Heap} {k i : Nat} (h : hg_rep E M H) (hi : i < hg_ct M k) : hg_ad E k i < H.size := by
  have h1 := h.2.2 k i hi
  unfold hg_cell at h1
  split at h1
  · obtain ⟨cell, q, -⟩ := h1
    exact (Array.getElem?_eq_some_iff.mp q).1
  · exact (Array.getElem?_eq_some_iff.mp h1).1
def hg_u3 {α : Type} (f : Nat → Nat → Nat → α) (k i j : Nat) (x : α) : Nat → Nat → Nat → α := fun k' i' j' => if k' = k ∧ i' = i ∧ j' = j then x else f k' i' j'
def hg_z3 {α : Type} (f : Nat → Nat → Nat → α) (k i : Nat) (x : α) : Nat → Nat → Nat → α := fun k' i' j' => if k' = k ∧ i' = i then x else f k' i' j'
def hg_cp {α : Type} (f : Nat → Nat → Nat → α) (k i k0 i0 sp dp n : Nat) : Nat → Nat → Nat → α := fun k' i' j' => if k' = k ∧ i' = i ∧ dp ≤ j' ∧ j' < dp + n then f k0 i0 (sp + (j' - dp)) else f k' i' j'
theorem hg_u3s {α : Type} (f : Nat → Nat → Nat → α) (k i j : Nat) (x : α) : hg_u3 f k i j x k i j = x := by simp [hg_u3]
theorem hg_u3k {α : Type} {f : Nat → Nat → Nat → α} {k i j : Nat} {x : α} {k' i' j' : Nat} (h : ¬ (k' = k ∧ i' = i)) : hg_u3 f k i j x k' i' j' = f k' i' j' := by
  unfold hg_u3
  rw [if_neg (fun q => h ⟨q.1, q.2.1⟩)]
theorem hg_va_P1 {H : Heap} {k i c : Nat} (hc : c < 9) (h : t_OB (hg_ad E k i) (E.1 c) (hg_N c) (E.2.1 c) H (hg_fv E M k i c)) : va_P (E.1, E.2.1) hg_cls [(hg_ad E k i, .inr (c, (List.range (hg_N c)).map (hg_fv E M k i c)))] H := by
  intro x q hx
  have hz : x < 1 := (List.getElem?_eq_some_iff.mp hx).1
  rw [show x = 0 by omega] at hx
  cases hx
  refine ⟨_, hg_cls_at hc, h.to (fun j hj => ?_)⟩
  have hj : j < hg_N c := hj
  simp [vp_V, List.getD_eq_getElem?_getD, hj]
theorem hg_cl9 : ∀ k c, hg_cl k = some c → c < 9 := by
  intro k c h
  unfold hg_cl at h
  split at h <;> cases h <;> decide
theorem hg_ty6 (k : Nat) : hg_ty k < 6 := by
  unfold hg_ty
  split <;> decide
theorem hg_arrof {s : State} {k n : Nat} {f : Nat → Value} (hK : hg_kn E s) : s.isArrayOf (arrV (hg_cA E (hg_ty k)) n f) (hg_fty (hg_ty k)) := (hK.1.2 _ _ (hg_tys_at E (hg_ty6 k))).1 n f
variable {I : Nat → Nat → Nat → Int32} {Lg : Nat → Nat → Nat → Int64} {Rf : Nat → Nat → Nat → Option (Nat × Nat)} {X : Nat × (Nat → Nat) × (Nat → Nat → Nat)}
theorem hg_getI {idx ci j k i : Nat} (hd : hg_D Y pc pc' 3 (.getfield idx)) (hf : hg_FL Y.1.cls idx ci j) (hk : hg_cl k = some ci) (hj : hg_isR (hg_tt ci j) = false) (hi : i < X.2.1 k) (kk : hg_WP l E d Y mc ms pc' loc (.int (I k i j) :: st) (I, Lg, Rf, X) Q) : hg_WP l E d Y mc ms pc loc (.ref (hg_ad E k i) :: st) (I, Lg, Rf, X) Q := by
  intro p e R s m args below meth c H locs cells slots Z ls hF hK hR hP hS hL hz hret
  obtain ⟨hd, rfl⟩ := hd
  have hv : ((List.range (hg_N ci)).map (hg_fv E (I, Lg, Rf, X) k i ci))[j]? = some (.int (I k i j)) := by
    simp [hf.2.1, hg_fv, hj]
  exact va_get (own := Y.1.cls) (ref := (hg_Tb ci j).1) (C := hg_C ci) (T := hg_Tb ci) (N := hg_N ci) hF.1 hF.2.1 hF.2.2.2.2.1 (hg_lay hf.1) hF.2.2.2.1 hK.1 (hg_va_P1 hf.1 (hP.obj hk hi)) 0 rfl (hg_cls_at hf.1) j hf.2.1 (hF.ts hf.2.2) (fun x h => h) hv hd (kk p e R s m args below meth c H locs cells slots Z ls hF hK hR hP hS hL hz hret)
theorem hg_getR {idx ci j k i k' i' : Nat} (hd : hg_D Y pc pc' 3 (.getfield idx)) (hf : hg_FL Y.1.cls idx ci j) (hk : hg_cl k = some ci) (hj : hg_isR (hg_tt ci j) = true) (hi : i < X.2.1 k) (hr : Rf k i j = some (k', i')) (kk : hg_WP l E d Y mc ms pc' loc (.ref (hg_ad E k' i') :: st) (I, Lg, Rf, X) Q) : hg_WP l E d Y mc ms pc loc (.ref (hg_ad E k i) :: st) (I, Lg, Rf, X) Q := by
  intro p e R s m args below meth c H locs cells slots Z ls hF hK hR hP hS hL hz hret
  obtain ⟨hd, rfl⟩ := hd
  have hv : ((List.range (hg_N ci)).map (hg_fv E (I, Lg, Rf, X) k i ci))[j]? = some (.ref (hg_ad E k' i')) := by
    simp [hf.2.1, hg_fv, hj, hr, hg_rv]
  exact va_get (own := Y.1.cls) (ref := (hg_Tb ci j).1) (C := hg_C ci) (T := hg_Tb ci) (N := hg_N ci) hF.1 hF.2.1 hF.2.2.2.2.1 (hg_lay hf.1) hF.2.2.2.1 hK.1 (hg_va_P1 hf.1 (hP.obj hk hi)) 0 rfl (hg_cls_at hf.1) j hf.2.1 (hF.ts hf.2.2) (fun x h => h) hv hd (kk p e R s m args below meth c H locs cells slots Z ls hF hK hR hP hS hL hz hret)
/-- a store into a field: the cell behind it -/
theorem hg_fput {s : State} {c j k i : Nat} {v : Value} (hc : c < 9) (hj : j < hg_N c) (hK : hg_kn E s) {T : List Cond} {args : Array Value} (hts : ∀ w ∈ T, w.before args s = true) (hin : ∀ w ∈ u_ws (hg_C c) (hg_Tb c) (hg_N c), w ∈ T) {cell : Cell} (q4 : ∀ x, x < hg_N c → cell.slots[E.2.1 c x]? = some (hg_fv E M k i c x)) (x : Nat) (hx : x < hg_N c) : (cell.setSlot (E.2.1 c j) v).slots[E.2.1 c x]? = some (if x = j then v else hg_fv E M k i c x) := by
  have hap := va_apart (own := "") (D := (E.1, E.2.1)) (ci := c) hts hin (hg_tt c) (hg_tt_ok c hc) (hg_nm c hc) hK.1 (hg_cls_at hc)
  have h := t_set (V := hg_fv E M k i c) q4 hap hj v x hx
  rw [h]
  simp [updV]
theorem hg_putX {idx c j k i : Nat} {v : Value} {M' : hg_M} (hd : hg_D Y pc pc' 3 (.putfield idx)) (hf : hg_FL Y.1.cls idx c j) (hk : hg_cl k = some c) (hfin : (hg_Tb c j).2.2.2 = false ∨ (Y.1.name = "<init>" ∧ (hg_Tb c j).2.2.2 = true ∧ (hg_Tb c j).1 = Y.1.cls)) (hn : narrow (hg_tt c j) v = v) (hfit : fits (hg_tt c j) v = true) (hi : i < hg_ct M k)
    (hX : M'.2.2.2 = M.2.2.2) (hs : ∀ k' i', ¬ (k' = k ∧ i' = i) → (∀ j, M'.1 k' i' j = M.1 k' i' j) ∧ (∀ j, M'.2.1 k' i' j = M.2.1 k' i' j) ∧ ∀ j, M'.2.2.1 k' i' j = M.2.2.1 k' i' j) (hv : ∀ x, hg_fv E M' k i c x = if x = j then v else hg_fv E M k i c x)
    (kk : hg_WP l E d Y mc ms pc' loc st M' Q) : hg_WP l E d Y mc ms pc loc (v :: .ref (hg_ad E k i) :: st) M Q := by
  intro p e R s m args below meth c0 H locs cells slots Z ls hF hK hR hP hS hL hz hret
  obtain ⟨hd, rfl⟩ := hd
  obtain ⟨hc, hj, hlink⟩ := hf
  have hOB := hP.obj hk hi
  obtain ⟨cell, q1, q2, q3, q4⟩ := id hOB
  obtain ⟨hSl, hfc, kC, hkC, hkind⟩ := hK.1.1 c _ (hg_cls_at hc)
  obtain ⟨cf, kf, fi, f, hif, hsl⟩ := hSl j hj
  have hlays := u_lays hF.2.2.2.2.1 (hg_lay hc) hj
  have hst := (u_facts hfc hkC hlays hif).1
  have hpd := hg_tt_ok c hc j hj
  have hlt : f.slot < cell.slots.size := by rw [hsl]; exact k2_hasslot (q4 j hj)
  have fin : ∀ H' : Heap, H'[hg_ad E k i]? = some (cell.setSlot f.slot v) → H'.size = H.size → (∀ q, q ≠ hg_ad E k i → H'[q]? = H[q]?) → W p l e R s m args below meth c0 H' (locs ++ [⟨hg_ad E k i, f.slot⟩]) cells slots Z (F0 m (pc + 3) ls st) := by
    intro H' e1 e2 e3
    have hA : hg_A E (hg_ad E k i) := Nat.le_add_right _ _
    refine kk p e R s m args below meth c0 H' _ cells slots Z ls hF hK hR (hP.upd e2 e3 hi hX hs ?_) (hS.put e2 e3 hA) hL hz hret
    unfold hg_cell
    rw [hk]
    refine ⟨_, e1, q2, q3, fun x hx => ?_⟩
    rw [hsl, hg_fput hc hj hK hF.2.2.2.2.1 (hg_lay hc) q4 x hx, hv x]
  rcases hfin with hfin | ⟨hin, hfin, hdecl⟩
  · have hlay := hF.ts (hg_lay hc _ (u_in_lay hj))
    unfold u_lay at hlay
    rw [if_neg (by rw [hfin]; decide)] at hlay
    have h6 := u_store hfc hkC hkind hlay hif hpd hn hfit
    exact W.putK hF.1 hF.2.1 (f := f) ⟨hF.2.2.2.1, hF.ts hlink, ⟨_, _, _, hif⟩, hst⟩ (by rw [q2]; exact h6) q1 q3 hlt rfl rfl hd fin
  · have hlay := hF.ts (hg_lay hc _ (u_in_lay hj))
    unfold u_lay at hlay
    rw [if_pos hfin] at hlay
    have hcf : m.cls = cf := by
      obtain ⟨_, _, c', _, _, _, -, -, hf', -, -, -, hown2, -⟩ := Cond.laysFinal_spec hlay
      have e1 : c' = cf := by have := hif.symm.trans hf'; simp at this; exact this.1.symm
      rw [hdecl] at hown2
      rw [← e1]; exact Option.some.inj (hF.2.2.2.1.symm.trans hown2)
    have h6 := u_fits hfc hkC hkind (Or.inr hlay) hif hpd hn hfit
    exact W.putFinK hF.1 hF.2.1 hF.2.2.2.1 (hF.ts hlink) hif hst hcf (hF.2.2.2.2.2 hin) (by rw [q2]; exact h6) q1 q3 hlt rfl rfl hd fin
theorem hg_putI {idx ci j k i : Nat} {x : Int32} (hd : hg_D Y pc pc' 3 (.putfield idx)) (hf : hg_FL Y.1.cls idx ci j) (hk : hg_cl k = some ci) (hj : hg_isR (hg_tt ci j) = false) (hfin : (hg_Tb ci j).2.2.2 = false ∨ (Y.1.name = "<init>" ∧ (hg_Tb ci j).2.2.2 = true ∧ (hg_Tb ci j).1 = Y.1.cls)) (hn : narrow (hg_tt ci j) (.int x) = .int x) (hfit : fits (hg_tt ci j) (.int x) = true) (hi : i < X.2.1 k) (kk : hg_WP l E d Y mc ms pc' loc st (hg_u3 I k i j x, Lg, Rf, X) Q) : hg_WP l E d Y mc ms pc loc (.int x :: .ref (hg_ad E k i) :: st) (I, Lg, Rf, X) Q := by
  refine hg_putX (M' := (hg_u3 I k i j x, Lg, Rf, X)) hd hf hk hfin hn hfit hi rfl (fun k' i' h => ⟨fun j' => hg_u3k h, fun _ => rfl, fun _ => rfl⟩) (fun y => ?_) kk
  by_cases hy : y = j
  · subst hy; simp [hg_fv, hj, hg_u3]
  · rw [if_neg hy]; simp [hg_fv, hg_u3, hy]
theorem hg_putR {idx ci j k i k' i' : Nat} (hd : hg_D Y pc pc' 3 (.putfield idx)) (hf : hg_FL Y.1.cls idx ci j) (hk : hg_cl k = some ci) (hj : hg_isR (hg_tt ci j) = true) (hfin : (hg_Tb ci j).2.2.2 = false ∨ (Y.1.name = "<init>" ∧ (hg_Tb ci j).2.2.2 = true ∧ (hg_Tb ci j).1 = Y.1.cls)) (hn : ∀ a, narrow (hg_tt ci j) (.ref a) = .ref a) (hfit : ∀ a, fits (hg_tt ci j) (.ref a) = true) (hi : i < X.2.1 k) (kk : hg_WP l E d Y mc ms pc' loc st (I, Lg, hg_u3 Rf k i j (some (k', i')), X) Q) : hg_WP l E d Y mc ms pc loc (.ref (hg_ad E k' i') :: .ref (hg_ad E k i) :: st) (I, Lg, Rf, X) Q := by
  refine hg_putX (M' := (I, Lg, hg_u3 Rf k i j (some (k', i')), X)) hd hf hk hfin (hn _) (hfit _) hi rfl (fun k' i' h => ⟨fun _ => rfl, fun _ => rfl, fun j' => hg_u3k h⟩) (fun y => ?_) kk
  by_cases hy : y = j
  · subst hy; simp [hg_fv, hj, hg_u3, hg_rv]
  · rw [if_neg hy]; simp [hg_fv, hg_u3, hy]
theorem hg_astX {k i j : Nat} {v : Value} {M' : hg_M} {H H1 : Heap} (hP : hg_rep E M H) (hk : hg_cl k = none) (hi : i < hg_ct M k) (hX : M'.2.2.2 = M.2.2.2) (hs : ∀ k' i', ¬ (k' = k ∧ i' = i) → (∀ j, M'.1 k' i' j = M.1 k' i' j) ∧ (∀ j, M'.2.1 k' i' j = M.2.1 k' i' j) ∧ ∀ j, M'.2.2.1 k' i' j = M.2.2.1 k' i' j) (hv : ∀ x, hg_av E M' k i x = if x = j then v else hg_av E M k i x)
    (e : H1[hg_ad E k i]? = some ((arrV (hg_cA E (hg_ty k)) (hg_ln M k i) (hg_av E M k i)).setSlot j v)) (z : H1.size = H.size) (oq : ∀ q, q ≠ hg_ad E k i → H1[q]? = H[q]?) : hg_rep E M' H1 := by
  refine hP.upd z oq hi hX hs ?_
  unfold hg_cell
  rw [hk]
  show H1[_]? = some (arrV _ (M'.2.2.2.2.2 k i) _)
  rw [e, arrV_store, hX]
  congr 2
  funext x
  rw [hv x]
  rfl
/-- a cell's content by its own row's type -/
theorem hg_ineq {j n : Nat} {i : Int32} {cA : ClassId} {f : Nat → Value} (h : vp_in i n) : ¬ (i < 0 ∨ (arrV cA n f).slots.size ≤ i.toNatClampNeg) := by rw [arrV_size]; exact h
theorem hg_inlt {n : Nat} {i : Int32} (h : vp_in i n) : i.toNatClampNeg < n := Nat.not_le.mp fun q => h (Or.inr q)
theorem hg_iald {k i : Nat} {x : Int32} (hd : hg_D Y pc pc' 1 .iaload) (hk : hg_cl k = none) (hy : hg_ty k = 0) (hi : i < X.2.1 k) (hx : vp_in x (X.2.2 k i)) (kk : hg_WP l E d Y mc ms pc' loc (.int (I k i x.toNatClampNeg) :: st) (I, Lg, Rf, X) Q) : hg_WP l E d Y mc ms pc loc (.int x :: .ref (hg_ad E k i) :: st) (I, Lg, Rf, X) Q := by
  intro p e R s m args below meth c H locs cells slots Z ls hF hK hR hP hS hL hz hret
  obtain ⟨hd, rfl⟩ := hd
  have ha := hg_arrof (k := k) (n := hg_ln (I, Lg, Rf, X) k i) (f := hg_av E (I, Lg, Rf, X) k i) hK
  rw [hy] at ha
  have hc := hP.arr hk hi
  rw [hy] at hc
  refine W.iald (v := .int (I k i x.toNatClampNeg)) hF.1 hF.2.1 hc ha (fun q => by cases q) (hg_ineq (j := 0) hx) ?_ rfl rfl hd (kk p e R s m args below meth c H locs cells slots Z ls hF hK hR hP hS hL hz hret)
  rw [arrV_read _ _ (hg_inlt hx)]
  simp [hg_av, hy]
theorem hg_bald {k i : Nat} {x : Int32} (hd : hg_D Y pc pc' 1 .baload) (hk : hg_cl k = none) (hy : hg_ty k = 1) (hi : i < X.2.1 k) (hx : vp_in x (X.2.2 k i)) (kk : hg_WP l E d Y mc ms pc' loc (.int (I k i x.toNatClampNeg) :: st) (I, Lg, Rf, X) Q) : hg_WP l E d Y mc ms pc loc (.int x :: .ref (hg_ad E k i) :: st) (I, Lg, Rf, X) Q := by
  intro p e R s m args below meth c H locs cells slots Z ls hF hK hR hP hS hL hz hret
  obtain ⟨hd, rfl⟩ := hd
  have ha := hg_arrof (k := k) (n := hg_ln (I, Lg, Rf, X) k i) (f := hg_av E (I, Lg, Rf, X) k i) hK
  rw [hy] at ha
  have hc := hP.arr hk hi
  rw [hy] at hc
  refine W.bald (v := .int (I k i x.toNatClampNeg)) hF.1 hF.2.1 hc ha (fun q => by cases q) (hg_ineq (j := 0) hx) ?_ rfl rfl hd (kk p e R s m args below meth c H locs cells slots Z ls hF hK hR hP hS hL hz hret)
  rw [arrV_read _ _ (hg_inlt hx)]
  simp [hg_av, hy]
theorem hg_zald {k i : Nat} {x : Int32} (hd : hg_D Y pc pc' 1 .baload) (hk : hg_cl k = none) (hy : hg_ty k = 2) (hi : i < X.2.1 k) (hx : vp_in x (X.2.2 k i)) (kk : hg_WP l E d Y mc ms pc' loc (.int (I k i x.toNatClampNeg) :: st) (I, Lg, Rf, X) Q) : hg_WP l E d Y mc ms pc loc (.int x :: .ref (hg_ad E k i) :: st) (I, Lg, Rf, X) Q := by
  intro p e R s m args below meth c H locs cells slots Z ls hF hK hR hP hS hL hz hret
  obtain ⟨hd, rfl⟩ := hd
  have ha := hg_arrof (k := k) (n := hg_ln (I, Lg, Rf, X) k i) (f := hg_av E (I, Lg, Rf, X) k i) hK
  rw [hy] at ha
  have hc := hP.arr hk hi
  rw [hy] at hc
  refine W.zald (v := .int (I k i x.toNatClampNeg)) hF.1 hF.2.1 hc ha (fun q => by cases q) (hg_ineq (j := 0) hx) ?_ rfl rfl hd (kk p e R s m args below meth c H locs cells slots Z ls hF hK hR hP hS hL hz hret)
  rw [arrV_read _ _ (hg_inlt hx)]
  simp [hg_av, hy]
theorem hg_lald {k i : Nat} {x : Int32} (hd : hg_D Y pc pc' 1 .laload) (hk : hg_cl k = none) (hy : hg_ty k = 3) (hi : i < X.2.1 k) (hx : vp_in x (X.2.2 k i)) (kk : hg_WP l E d Y mc ms pc' loc (.long (Lg k i x.toNatClampNeg) :: st) (I, Lg, Rf, X) Q) : hg_WP l E d Y mc ms pc loc (.int x :: .ref (hg_ad E k i) :: st) (I, Lg, Rf, X) Q := by
  intro p e R s m args below meth c H locs cells slots Z ls hF hK hR hP hS hL hz hret
  obtain ⟨hd, rfl⟩ := hd
  have ha := hg_arrof (k := k) (n := hg_ln (I, Lg, Rf, X) k i) (f := hg_av E (I, Lg, Rf, X) k i) hK
  rw [hy] at ha
  have hc := hP.arr hk hi
  rw [hy] at hc
  refine W.lald (v := .long (Lg k i x.toNatClampNeg)) hF.1 hF.2.1 hc ha (fun q => by cases q) (hg_ineq (j := 0) hx) ?_ rfl rfl hd (kk p e R s m args below meth c H locs cells slots Z ls hF hK hR hP hS hL hz hret)
  rw [arrV_read _ _ (hg_inlt hx)]
  simp [hg_av, hy]
theorem hg_aald {k i k' i' : Nat} {x : Int32} (hd : hg_D Y pc pc' 1 .aaload) (hk : hg_cl k = none) (hy : 4 ≤ hg_ty k) (hi : i < X.2.1 k) (hx : vp_in x (X.2.2 k i)) (hr : Rf k i x.toNatClampNeg = some (k', i')) (kk : hg_WP l E d Y mc ms pc' loc (.ref (hg_ad E k' i') :: st) (I, Lg, Rf, X) Q) : hg_WP l E d Y mc ms pc loc (.int x :: .ref (hg_ad E k i) :: st) (I, Lg, Rf, X) Q := by
  intro p e R s m args below meth c H locs cells slots Z ls hF hK hR hP hS hL hz hret
  obtain ⟨hd, rfl⟩ := hd
  have ha := hg_arrof (k := k) (n := hg_ln (I, Lg, Rf, X) k i) (f := hg_av E (I, Lg, Rf, X) k i) hK
  have hc := hP.arr hk hi
  refine W.aald (v := .ref (hg_ad E k' i')) hF.1 hF.2.1 hc ha ?_ (fun q => by cases q) (hg_ineq (j := 0) hx) ?_ rfl rfl hd (kk p e R s m args below meth c H locs cells slots Z ls hF hK hR hP hS hL hz hret)
  · have h6 := hg_ty6 k
    rcases (show hg_ty k = 4 ∨ hg_ty k = 5 by omega) with q | q <;> rw [q] <;> rfl
  · rw [arrV_read _ _ (hg_inlt hx)]
    have h1 : ¬ hg_ty k ≤ 2 := by omega
    have h2 : ¬ hg_ty k = 3 := by omega
    simp [hg_av, h1, h2, hr, hg_rv]
/-- a row that lies outside -/
theorem hg_extT {s : State} {H : Heap} {locs : List Loc} {ty : FieldType} {t N : Nat} {f : Nat → Value} (h : va_T ty t N f (hg_A E) s s.heap) (hS : va_S (hg_A E) s.heap H locs) : va_T ty t N f (hg_A E) s H := h.kept (fun a h1 h2 => hS.2.1 a h1 h2)
theorem hg_ialdT {t N : Nat} {f : Nat → Int32} {x : Int32} (hd : hg_D Y pc pc' 1 .iaload) (hT : ∀ s, hg_kn E s → va_T .int t N (fun j => .int (f j)) (hg_A E) s s.heap) (hx : vp_in x N) (kk : hg_WP l E d Y mc ms pc' loc (.int (f x.toNatClampNeg) :: st) M Q) : hg_WP l E d Y mc ms pc loc (.int x :: .ref t :: st) M Q := by
  intro p e R s m args below meth c H locs cells slots Z ls hF hK hR hP hS hL hz hret
  obtain ⟨hd, rfl⟩ := hd
  obtain ⟨cell, h1, h2, h3, h4, h5, h6, h7⟩ := hg_extT (hT s hK) hS
  exact W.iald (v := .int (f x.toNatClampNeg)) hF.1 hF.2.1 h1 h2 h3 (fun q => hx (q.imp id (fun q => Nat.le_trans h4 q))) (h6 _ (hg_inlt hx)) rfl rfl hd (kk p e R s m args below meth c H locs cells slots Z ls hF hK hR hP hS hL hz hret)
theorem hg_baldT {t N : Nat} {f : Nat → Int32} {x : Int32} (hd : hg_D Y pc pc' 1 .baload) (hT : ∀ s, hg_kn E s → va_T .byte t N (fun j => .int (f j)) (hg_A E) s s.heap) (hx : vp_in x N) (kk : hg_WP l E d Y mc ms pc' loc (.int (f x.toNatClampNeg) :: st) M Q) : hg_WP l E d Y mc ms pc loc (.int x :: .ref t :: st) M Q := by
  intro p e R s m args below meth c H locs cells slots Z ls hF hK hR hP hS hL hz hret
  obtain ⟨hd, rfl⟩ := hd
  obtain ⟨cell, h1, h2, h3, h4, h5, h6, h7⟩ := hg_extT (hT s hK) hS
  exact W.bald (v := .int (f x.toNatClampNeg)) hF.1 hF.2.1 h1 h2 h3 (fun q => hx (q.imp id (fun q => Nat.le_trans h4 q))) (h6 _ (hg_inlt hx)) rfl rfl hd (kk p e R s m args below meth c H locs cells slots Z ls hF hK hR hP hS hL hz hret)
theorem hg_alenT {t N : Nat} {ty : FieldType} {f : Nat → Value} (hd : hg_D Y pc pc' 1 .arraylength) (hT : ∀ s, hg_kn E s → va_T ty t N f (hg_A E) s s.heap) (kk : hg_WP l E d Y mc ms pc' loc (.int (Int32.ofNat N) :: st) M Q) : hg_WP l E d Y mc ms pc loc (.ref t :: st) M Q := by
  intro p e R s m args below meth c H locs cells slots Z ls hF hK hR hP hS hL hz hret
  obtain ⟨hd, rfl⟩ := hd
  obtain ⟨cell, h1, h2, h3, h4, h5, h6, h7⟩ := hg_extT (hT s hK) hS
  exact W.alen (n := Int32.ofNat N) hF.1 hF.2.1 h1 h2 h5 rfl rfl hd (kk p e R s m args below meth c H locs cells slots Z ls hF hK hR hP hS hL hz hret)
theorem hg_alen {k i : Nat} (hd : hg_D Y pc pc' 1 .arraylength) (hk : hg_cl k = none) (hi : i < X.2.1 k) (kk : hg_WP l E d Y mc ms pc' loc (.int (nI (X.2.2 k i)) :: st) (I, Lg, Rf, X) Q) : hg_WP l E d Y mc ms pc loc (.ref (hg_ad E k i) :: st) (I, Lg, Rf, X) Q := by
  intro p e R s m args below meth c H locs cells slots Z ls hF hK hR hP hS hL hz hret
  obtain ⟨hd, rfl⟩ := hd
  have ha := hg_arrof (k := k) (n := hg_ln (I, Lg, Rf, X) k i) (f := hg_av E (I, Lg, Rf, X) k i) hK
  exact W.alen (n := nI (X.2.2 k i)) hF.1 hF.2.1 (hP.arr hk hi) ha (by rw [arrV_size]; rfl) rfl rfl hd (kk p e R s m args below meth c H locs cells slots Z ls hF hK hR hP hS hL hz hret)
theorem hg_iast {k i : Nat} {x : Int32} {y : Int32} (hd : hg_D Y pc pc' 1 .iastore) (hk : hg_cl k = none) (hy : hg_ty k = 0) (hi : i < X.2.1 k) (hx : vp_in x (X.2.2 k i)) (kk : hg_WP l E d Y mc ms pc' loc st (hg_u3 I k i x.toNatClampNeg y, Lg, Rf, X) Q) : hg_WP l E d Y mc ms pc loc (.int y :: .int x :: .ref (hg_ad E k i) :: st) (I, Lg, Rf, X) Q := by
  intro p e R s m args below meth c H locs cells slots Z ls hF hK hR hP hS hL hz hret
  obtain ⟨hd, rfl⟩ := hd
  have ha := hg_arrof (k := k) (n := hg_ln (I, Lg, Rf, X) k i) (f := hg_av E (I, Lg, Rf, X) k i) hK
  have hc := hP.arr hk hi
  rw [hy] at ha hc
  refine W.iast hF.1 hF.2.1 hc ha (fun q => by cases q) (hg_ineq (j := 0) hx) rfl rfl hd fun H1 e1 z1 oq => ?_
  have hA : hg_A E (hg_ad E k i) := Nat.le_add_right _ _
  refine kk p e R s m args below meth c H1 _ cells slots Z ls hF hK hR ?_ (hS.put z1 oq hA) hL hz hret
  refine hg_astX (M' := (hg_u3 I k i x.toNatClampNeg y, Lg, Rf, X)) (j := x.toNatClampNeg) (v := .int y) hP hk hi rfl (fun k' i' h => ⟨fun j' => hg_u3k h, fun _ => rfl, fun _ => rfl⟩) (fun q => ?_) (by rw [hy]; exact e1) z1 oq
  by_cases hq : q = x.toNatClampNeg
  · subst hq; simp [hg_av, hy, hg_u3]
  · rw [if_neg hq]; simp [hg_av, hy, hg_u3, hq]
theorem hg_bast {k i : Nat} {x : Int32} {y : Int32} (hd : hg_D Y pc pc' 1 .bastore) (hk : hg_cl k = none) (hy : hg_ty k = 1) (hi : i < X.2.1 k) (hx : vp_in x (X.2.2 k i)) (kk : hg_WP l E d Y mc ms pc' loc st (hg_u3 I k i x.toNatClampNeg y.toInt8.toInt32, Lg, Rf, X) Q) : hg_WP l E d Y mc ms pc loc (.int y :: .int x :: .ref (hg_ad E k i) :: st) (I, Lg, Rf, X) Q := by
  intro p e R s m args below meth c H locs cells slots Z ls hF hK hR hP hS hL hz hret
  obtain ⟨hd, rfl⟩ := hd
  have ha := hg_arrof (k := k) (n := hg_ln (I, Lg, Rf, X) k i) (f := hg_av E (I, Lg, Rf, X) k i) hK
  have hc := hP.arr hk hi
  rw [hy] at ha hc
  refine W.bast hF.1 hF.2.1 hc ha (fun q => by cases q) (hg_ineq (j := 0) hx) rfl rfl hd fun H1 e1 z1 oq => ?_
  have hA : hg_A E (hg_ad E k i) := Nat.le_add_right _ _
  refine kk p e R s m args below meth c H1 _ cells slots Z ls hF hK hR ?_ (hS.put z1 oq hA) hL hz hret
  refine hg_astX (M' := (hg_u3 I k i x.toNatClampNeg y.toInt8.toInt32, Lg, Rf, X)) (j := x.toNatClampNeg) (v := .int y.toInt8.toInt32) hP hk hi rfl (fun k' i' h => ⟨fun j' => hg_u3k h, fun _ => rfl, fun _ => rfl⟩) (fun q => ?_) (by rw [hy]; exact e1) z1 oq
  by_cases hq : q = x.toNatClampNeg
  · subst hq; simp [hg_av, hy, hg_u3]
  · rw [if_neg hq]; simp [hg_av, hy, hg_u3, hq]
theorem hg_zast {k i : Nat} {x : Int32} {y : Int32} (hd : hg_D Y pc pc' 1 .bastore) (hk : hg_cl k = none) (hy : hg_ty k = 2) (hi : i < X.2.1 k) (hx : vp_in x (X.2.2 k i)) (kk : hg_WP l E d Y mc ms pc' loc st (hg_u3 I k i x.toNatClampNeg (vp_nar .boolean y), Lg, Rf, X) Q) : hg_WP l E d Y mc ms pc loc (.int y :: .int x :: .ref (hg_ad E k i) :: st) (I, Lg, Rf, X) Q := by
  intro p e R s m args below meth c H locs cells slots Z ls hF hK hR hP hS hL hz hret
  obtain ⟨hd, rfl⟩ := hd
  have ha := hg_arrof (k := k) (n := hg_ln (I, Lg, Rf, X) k i) (f := hg_av E (I, Lg, Rf, X) k i) hK
  have hc := hP.arr hk hi
  rw [hy] at ha hc
  refine W.zast hF.1 hF.2.1 hc ha (fun q => by cases q) (hg_ineq (j := 0) hx) rfl rfl hd fun H1 e1 z1 oq => ?_
  have hA : hg_A E (hg_ad E k i) := Nat.le_add_right _ _
  refine kk p e R s m args below meth c H1 _ cells slots Z ls hF hK hR ?_ (hS.put z1 oq hA) hL hz hret
  refine hg_astX (M' := (hg_u3 I k i x.toNatClampNeg (vp_nar .boolean y), Lg, Rf, X)) (j := x.toNatClampNeg) (v := .int (vp_nar .boolean y)) hP hk hi rfl (fun k' i' h => ⟨fun j' => hg_u3k h, fun _ => rfl, fun _ => rfl⟩) (fun q => ?_) (by rw [hy]; exact e1) z1 oq
  by_cases hq : q = x.toNatClampNeg
  · subst hq; simp [hg_av, hy, hg_u3]
  · rw [if_neg hq]; simp [hg_av, hy, hg_u3, hq]
theorem hg_last {k i : Nat} {x : Int32} {y : Int64} (hd : hg_D Y pc pc' 1 .lastore) (hk : hg_cl k = none) (hy : hg_ty k = 3) (hi : i < X.2.1 k) (hx : vp_in x (X.2.2 k i)) (kk : hg_WP l E d Y mc ms pc' loc st (I, hg_u3 Lg k i x.toNatClampNeg y, Rf, X) Q) : hg_WP l E d Y mc ms pc loc (.long y :: .int x :: .ref (hg_ad E k i) :: st) (I, Lg, Rf, X) Q := by
  intro p e R s m args below meth c H locs cells slots Z ls hF hK hR hP hS hL hz hret
  obtain ⟨hd, rfl⟩ := hd
  have ha := hg_arrof (k := k) (n := hg_ln (I, Lg, Rf, X) k i) (f := hg_av E (I, Lg, Rf, X) k i) hK
  have hc := hP.arr hk hi
  rw [hy] at ha hc
  refine W.last hF.1 hF.2.1 hc ha (fun q => by cases q) (hg_ineq (j := 0) hx) rfl rfl hd fun H1 e1 z1 oq => ?_
  have hA : hg_A E (hg_ad E k i) := Nat.le_add_right _ _
  refine kk p e R s m args below meth c H1 _ cells slots Z ls hF hK hR ?_ (hS.put z1 oq hA) hL hz hret
  refine hg_astX (M' := (I, hg_u3 Lg k i x.toNatClampNeg y, Rf, X)) (j := x.toNatClampNeg) (v := .long y) hP hk hi rfl (fun k' i' h => ⟨fun _ => rfl, fun j' => hg_u3k h, fun _ => rfl⟩) (fun q => ?_) (by rw [hy]; exact e1) z1 oq
  by_cases hq : q = x.toNatClampNeg
  · subst hq; simp [hg_av, hy, hg_u3]
  · rw [if_neg hq]; simp [hg_av, hy, hg_u3, hq]
theorem hg_ra {s : State} {t : Nat} {C : String} (hK : hg_kn E s) (h : (t = 4 ∧ C = "HangmanDinner$House") ∨ (t = 5 ∧ C = "HangmanDinner$Tape")) : hg_fty t = .object C ∧ ∃ (kA : Class) (comp : ClassId), s.vm.classes[hg_cA E t]? = some kA ∧ kA.kind = .array comp (.object C) ∧ s.vm.findClass C = some comp ∧ s.vm.findClass ("[" ++ (FieldType.object C).toString) = some (hg_cA E t) := by
  rcases h with ⟨rfl, rfl⟩ | ⟨rfl, rfl⟩
  · exact ⟨rfl, (hK.1.2 4 _ (hg_tys_at E (t := 4) (by decide))).2⟩
  · exact ⟨rfl, (hK.1.2 5 _ (hg_tys_at E (t := 5) (by decide))).2⟩
theorem hg_aast {k i k' i' c : Nat} {x : Int32} (hd : hg_D Y pc pc' 1 .aastore) (hk : hg_cl k = none) (hy : (hg_ty k = 4 ∧ c = 0) ∨ (hg_ty k = 5 ∧ c = 5)) (hi : i < X.2.1 k) (hx : vp_in x (X.2.2 k i)) (hk' : hg_cl k' = some c) (hi' : i' < X.2.1 k') (kk : hg_WP l E d Y mc ms pc' loc st (I, Lg, hg_u3 Rf k i x.toNatClampNeg (some (k', i')), X) Q) : hg_WP l E d Y mc ms pc loc (.ref (hg_ad E k' i') :: .int x :: .ref (hg_ad E k i) :: st) (I, Lg, Rf, X) Q := by
  intro p e R s m args below meth c0 H locs cells slots Z ls hF hK hR hP hS hL hz hret
  obtain ⟨hd, rfl⟩ := hd
  have hc := hP.arr hk hi
  obtain ⟨cellV, g1, g2, g3, -⟩ := hP.obj hk' hi'
  have hcls := (hK.1.1 c _ (hg_cls_at (hg_cl9 _ _ hk'))).2
  have hR2 : ∃ (kA : Class), s.vm.classes[hg_cA E (hg_ty k)]? = some kA ∧ kA.kind = .array (E.1 c) (hg_fty (hg_ty k)) ∧ (hg_fty (hg_ty k)).isReference = true := by
    have hC : (hg_ty k = 4 ∧ hg_C c = "HangmanDinner$House") ∨ (hg_ty k = 5 ∧ hg_C c = "HangmanDinner$Tape") := by
      rcases hy with ⟨hy, rfl⟩ | ⟨hy, rfl⟩
      · exact Or.inl ⟨hy, rfl⟩
      · exact Or.inr ⟨hy, rfl⟩
    obtain ⟨k0, kA, comp, k1, k2, k3, -⟩ := hg_ra hK hC
    have hcomp : comp = E.1 c := Option.some.inj (k3.symm.trans hcls.1)
    subst hcomp
    exact ⟨kA, k1, by rw [k0]; exact k2, by rw [k0]; rfl⟩
  obtain ⟨kA, k1, k2, k3⟩ := hR2
  obtain ⟨kC, hkC, -⟩ := hcls.2
  have h4 : ¬ hg_ty k ≤ 2 ∧ ¬ hg_ty k = 3 := by rcases hy with ⟨hy, -⟩ | ⟨hy, -⟩ <;> omega
  refine W.aast hF.1 hF.2.1 hc (fun q h => by cases h) (fun h => by cases h) k1 k2 k3 hkC ⟨fun q => hx (Or.inl q), by rw [arrV_size]; exact hg_inlt hx⟩ g1 (fun q h => by rw [g3] at h; cases h) (by rw [g2]; exact hkC) (by rw [g2]; exact va_assign hcls) rfl rfl hd fun H1 e1 z1 oq => ?_
  have hA : hg_A E (hg_ad E k i) := Nat.le_add_right _ _
  refine kk p e R s m args below meth c0 H1 _ cells slots Z ls hF hK hR ?_ (hS.put z1 oq hA) hL hz hret
  refine hg_astX (M' := (I, Lg, hg_u3 Rf k i x.toNatClampNeg (some (k', i')), X)) (j := x.toNatClampNeg) (v := .ref (hg_ad E k' i')) hP hk hi rfl (fun k' i' h => ⟨fun _ => rfl, fun _ => rfl, fun j' => hg_u3k h⟩) (fun q => ?_) e1 z1 oq
  by_cases hq : q = x.toNatClampNeg
  · subst hq; simp [hg_av, h4, hg_u3, hg_rv]
  · rw [if_neg hq]; simp [hg_av, h4, hg_u3, hq]
-- what is made
def hg_up {α : Type} (f : Nat → α) (k : Nat) (x : α) : Nat → α := fun k' => if k' = k then x else f k'
def hg_up2 {α : Type} (f : Nat → Nat → α) (k i : Nat) (x : α) : Nat → Nat → α := fun k' i' => if k' = k ∧ i' = i then x else f k' i'
theorem hg_rep.push {H H1 : Heap} {k n : Nat} (h : hg_rep E (I, Lg, Rf, X) H) (hq : hg_sq k (X.2.1 k) = X.1) (hcap : X.2.1 k < hg_cap k) (hz : H1.size = H.size + 1) (oq : ∀ q, q < H.size → H1[q]? = H[q]?) {X' : Nat × (Nat → Nat) × (Nat → Nat → Nat)} (hX : X' = (X.1 + 1, hg_up X.2.1 k (X.2.1 k + 1), hg_up2 X.2.2 k (X.2.1 k) n)) (hc : hg_cell E (hg_z3 I k (X.2.1 k) 0, hg_z3 Lg k (X.2.1 k) 0, hg_z3 Rf k (X.2.1 k) none, X') k (X.2.1 k) H1) : hg_rep E (hg_z3 I k (X.2.1 k) 0, hg_z3 Lg k (X.2.1 k) 0, hg_z3 Rf k (X.2.1 k) none, X') H1 := by
  subst hX
  obtain ⟨h1, h2, h3⟩ := id h
  refine ⟨by rw [hz, h1]; exact Nat.add_assoc _ _ _, fun k' => ?_, fun k' i' hi' => ?_⟩
  · show (if k' = k then X.2.1 k + 1 else X.2.1 k') ≤ hg_cap k'
    by_cases e : k' = k
    · subst e; rw [if_pos rfl]; exact hcap
    · rw [if_neg e]; exact h2 k'
  · have hi' : i' < (if k' = k then X.2.1 k + 1 else X.2.1 k') := hi'
    by_cases e : k' = k ∧ i' = X.2.1 k
    · obtain ⟨rfl, rfl⟩ := e; exact hc
    · have hi2 : i' < X.2.1 k' := by
        by_cases e2 : k' = k
        · subst e2
          rw [if_pos rfl] at hi'
          have : ¬ i' = X.2.1 k' := fun z => e ⟨rfl, z⟩
          omega
        · rw [if_neg e2] at hi'; exact hi'
      have hn : ∀ {α : Type} (f : Nat → Nat → Nat → α) (x : α) (j : Nat), hg_z3 f k (X.2.1 k) x k' i' j = f k' i' j := fun f x j => by unfold hg_z3; rw [if_neg e]
      refine ((h3 k' i' hi2).kept (oq _ (h.lt hi2))).congr (fun j => hn I 0 j) (fun j => hn Lg 0 j) (fun j => hn Rf none j) ?_
      show (if k' = k ∧ i' = X.2.1 k then n else X.2.2 k' i') = X.2.2 k' i'
      rw [if_neg e]
theorem hg_S_push {A : Nat → Prop} {H0 H H1 : Heap} {locs : List Loc} (h : va_S A H0 H locs) (hz : H1.size = H.size + 1) (oq : ∀ q, q < H.size → H1[q]? = H[q]?) : va_S A H0 H1 locs := ⟨Nat.le_trans h.1 (by omega), fun q h1 h2 => (oq q (Nat.lt_of_lt_of_le h1 h.1)).trans (h.2.1 q h1 h2), h.2.2⟩
theorem hg_up2_same {f : Nat → Nat → Nat} {k i : Nat} : hg_up2 f k i (f k i) = f := by
  funext k' i'
  unfold hg_up2
  by_cases h : k' = k ∧ i' = i
  · obtain ⟨rfl, rfl⟩ := h; rw [if_pos ⟨rfl, rfl⟩]
  · rw [if_neg h]
theorem hg_dflt {E : hg_E} : ∀ c, c < 9 → ∀ j, j < hg_N c → defaultValue (hg_tt c j) = if hg_isR (hg_tt c j) = true then hg_rv E none else Value.int 0 := by
  intro c hc j hj
  have h : ∀ c, c < 9 → ∀ j, j < hg_N c → defaultValue (hg_tt c j) = if hg_isR (hg_tt c j) = true then Value.null else Value.int 0 := by decide +kernel
  exact h c hc j hj
theorem hg_new {idx ci k : Nat} (hd : hg_D Y pc pc' 3 (.new idx)) (hn : hg_CN Y.1.cls idx ci) (hk : hg_cl k = some ci) (hq : hg_sq k (X.2.1 k) = X.1) (hcap : X.2.1 k < hg_cap k) (hm : 1 ≤ mc) (hs : hg_N ci ≤ ms) (kk : hg_WP l E d Y (mc - 1) (ms - hg_N ci) pc' loc (.ref (hg_ad E k (X.2.1 k)) :: st) (hg_z3 I k (X.2.1 k) 0, hg_z3 Lg k (X.2.1 k) 0, hg_z3 Rf k (X.2.1 k) none, (X.1 + 1, hg_up X.2.1 k (X.2.1 k + 1), X.2.2)) Q) : hg_WP l E d Y mc ms pc loc st (I, Lg, Rf, X) Q := by
  intro p e R s m args below meth c0 H locs cells slots Z ls hF hK hR hP hS hL hz hret
  obtain ⟨hd, rfl⟩ := hd
  have hKn := hK.1.1 ci _ (hg_cls_at hn.1)
  have ha : hg_ad E k (X.2.1 k) = H.size := by rw [hP.1]; show _ + hg_sq _ _ = _; rw [hq]
  rw [ha] at kk
  refine W.newcK hF.1 hF.2.1 hF.2.2.2.1 (hF.ts hn.2.1) (hF.ts hn.2.2.1) (hF.ts hn.2.2.2) rfl hd (by omega) (by omega) hKn.2.1 rfl fun H1 kC hkC e1 z1 o1 => ?_
  refine kk p e R s m args below meth c0 H1 locs (cells + 1) (slots + hg_N ci) Z ls hF hK ⟨hR.1, hR.2.1, by omega, by omega⟩ (hP.push hq hcap z1 o1 (n := X.2.2 k (X.2.1 k)) (by rw [hg_up2_same]) ?_) (hg_S_push hS z1 o1) hL hz (fun pc ls H locs c' s' r M' h1 h2 h3 h4 h5 h6 => hret pc ls H locs c' s' r M' h1 h2 h3 h4 (by omega) (by omega))
  unfold hg_cell
  rw [hk]
  show t_OB (hg_ad E k (X.2.1 k)) _ _ _ _ _
  rw [ha]
  refine (u_born (hg_tt ci) hF.2.2.2.2.1 (hg_lay hn.1) hKn hkC e1 (hg_tt_ok ci hn.1)).to (fun j hj => ?_)
  unfold hg_fv
  show _ = if _ then hg_rv E (hg_z3 Rf k (X.2.1 k) none k (X.2.1 k) j) else .int (hg_z3 I k (X.2.1 k) 0 k (X.2.1 k) j)
  rw [show hg_z3 Rf k (X.2.1 k) none k (X.2.1 k) j = none by simp [hg_z3], show hg_z3 I k (X.2.1 k) 0 k (X.2.1 k) j = 0 by simp [hg_z3]]
  exact hg_dflt ci hn.1 j hj
theorem hg_arrT {s : State} {t : Nat} {cA : ClassId} (hK : hg_kn E s) (ht : t < 4) (h : s.vm.findClass ("[" ++ (hg_fty t).toString) = some cA) : cA = hg_cA E t := by
  have h2 := (hK.1.2 _ _ (hg_tys_at E (show t < 6 by omega))).2
  match t, ht with
  | 0, _ => exact Option.some.inj (h.symm.trans h2)
  | 1, _ => exact Option.some.inj (h.symm.trans h2)
  | 2, _ => exact Option.some.inj (h.symm.trans h2)
  | 3, _ => exact Option.some.inj (h.symm.trans h2)
theorem hg_newa {k N : Nat} {n : Int32} {at_ : ArrayType} (hd : hg_D Y pc pc' 2 (.newarray at_)) (hk : hg_cl k = none) (hty : newarray.typeOf at_ = hg_fty (hg_ty k)) (ht : hg_ty k < 4) (hT : Cond.arrayClass (newarray.typeOf at_) ∈ hg_T) (hq : hg_sq k (X.2.1 k) = X.1) (hcap : X.2.1 k < hg_cap k) (h0 : ¬ n < 0) (hN : n.toNatClampNeg = N) (hbig : N ≤ 1000) (hm : 1 ≤ mc) (hs : N ≤ ms) (kk : hg_WP l E d Y (mc - 1) (ms - N) pc' loc (.ref (hg_ad E k (X.2.1 k)) :: st) (hg_z3 I k (X.2.1 k) 0, hg_z3 Lg k (X.2.1 k) 0, hg_z3 Rf k (X.2.1 k) none, (X.1 + 1, hg_up X.2.1 k (X.2.1 k + 1), hg_up2 X.2.2 k (X.2.1 k) N)) Q) : hg_WP l E d Y mc ms pc loc (.int n :: st) (I, Lg, Rf, X) Q := by
  intro p e R s m args below meth c0 H locs cells slots Z ls hF hK hR hP hS hL hz hret
  obtain ⟨hd, rfl⟩ := hd
  have ha : hg_ad E k (X.2.1 k) = H.size := by rw [hP.1]; show _ + hg_sq _ _ = _; rw [hq]
  rw [ha] at kk
  refine va_newaK hF.1 hF.2.1 (hF.ts hT) rfl hd rfl h0 hN (Nat.le_trans (Nat.mul_le_mul hbig (show _ ≤ 8 by cases at_ <;> decide)) (by decide)) (by omega) (by omega) rfl fun H1 cA e1 z1 o1 _ hNm => ?_
  refine kk p e R s m args below meth c0 H1 locs (cells + 1) (slots + N) Z ls hF hK ⟨hR.1, hR.2.1, by omega, by omega⟩ (hP.push hq hcap z1 o1 rfl ?_) (hg_S_push hS z1 o1) hL hz (fun pc ls H locs c' s' r M' h1 h2 h3 h4 h5 h6 => hret pc ls H locs c' s' r M' h1 h2 h3 h4 (by omega) (by omega))
  unfold hg_cell
  rw [hk]
  show H1[hg_ad E k (X.2.1 k)]? = some (arrV _ (hg_up2 X.2.2 k (X.2.1 k) N k (X.2.1 k)) _)
  rw [ha, e1, show hg_up2 X.2.2 k (X.2.1 k) N k (X.2.1 k) = N by simp [hg_up2]]
  rw [hty] at hNm
  rw [hg_arrT hK ht hNm]
  congr 2
  funext j
  unfold hg_av
  show _ = if hg_ty k ≤ 2 then Value.int (hg_z3 I k (X.2.1 k) 0 k (X.2.1 k) j) else if hg_ty k = 3 then Value.long (hg_z3 Lg k (X.2.1 k) 0 k (X.2.1 k) j) else hg_rv E (hg_z3 Rf k (X.2.1 k) none k (X.2.1 k) j)
  rw [show hg_z3 I k (X.2.1 k) 0 k (X.2.1 k) j = 0 by simp [hg_z3], show hg_z3 Lg k (X.2.1 k) 0 k (X.2.1 k) j = 0 by simp [hg_z3], hty]
  generalize hg_ty k = t at ht
  match t, ht with
  | 0, _ => rfl
  | 1, _ => rfl
  | 2, _ => rfl
  | 3, _ => rfl
theorem hg_newq {k N idx : Nat} {n : Int32} {C : String} (hd : hg_D Y pc pc' 3 (.anewarray idx)) (hc : Cond.classLink Y.1.cls idx C ∈ hg_T) (hk : hg_cl k = none) (hty : (hg_ty k = 4 ∧ C = "HangmanDinner$House") ∨ (hg_ty k = 5 ∧ C = "HangmanDinner$Tape")) (hq : hg_sq k (X.2.1 k) = X.1) (hcap : X.2.1 k < hg_cap k) (h0 : ¬ n < 0) (hN : n.toNatClampNeg = N) (hbig : N ≤ 1000) (hm : 1 ≤ mc) (hs : N ≤ ms) (kk : hg_WP l E d Y (mc - 1) (ms - N) pc' loc (.ref (hg_ad E k (X.2.1 k)) :: st) (hg_z3 I k (X.2.1 k) 0, hg_z3 Lg k (X.2.1 k) 0, hg_z3 Rf k (X.2.1 k) none, (X.1 + 1, hg_up X.2.1 k (X.2.1 k + 1), hg_up2 X.2.2 k (X.2.1 k) N)) Q) : hg_WP l E d Y mc ms pc loc (.int n :: st) (I, Lg, Rf, X) Q := by
  intro p e R s m args below meth c0 H locs cells slots Z ls hF hK hR hP hS hL hz hret
  obtain ⟨hd, rfl⟩ := hd
  have ha : hg_ad E k (X.2.1 k) = H.size := by rw [hP.1]; show _ + hg_sq _ _ = _; rw [hq]
  rw [ha] at kk
  subst hN
  have hover : (Cond.arrayOver (.object C)).before args s = true := by
    rcases hty with ⟨-, rfl⟩ | ⟨-, rfl⟩
    · exact va_AO.use hK.2.1
    · exact va_AO.use hK.2.2.1
  refine W.anew hF.1 hF.2.1 hF.2.2.2.1 (hF.ts hc) hover rfl hd rfl h0 (Nat.le_trans (Nat.mul_le_mul hbig (Nat.le_refl 4)) (by decide)) (by omega) (by omega) fun cA kA comp f1 f2 f3 f4 => ?_
  generalize hH1 : H.push ({ cls := cA, slots := Array.replicate n.toNatClampNeg .null, vm := .none } : Cell) = H1
  have z1 : H1.size = H.size + 1 := by rw [← hH1, Array.size_push]
  have e1 : H1[H.size]? = some (arrV cA n.toNatClampNeg (fun _ => .null)) := by rw [← hH1, Array.getElem?_push_size, ← arrV_new]
  have o1 : ∀ q : Nat, q < H.size → H1[q]? = H[q]? := fun q hq => by rw [← hH1, Array.getElem?_push, if_neg (Nat.ne_of_lt hq)]
  have hcA : cA = hg_cA E (hg_ty k) := by
    obtain ⟨-, _, _, -, -, -, k4⟩ := hg_ra hK hty
    exact Option.some.inj (f1.symm.trans k4)
  refine kk p e R s m args below meth c0 H1 locs (cells + 1) (slots + n.toNatClampNeg) Z ls hF hK ⟨hR.1, hR.2.1, by omega, by omega⟩ (hP.push hq hcap z1 o1 rfl ?_) (hg_S_push hS z1 o1) hL hz (fun pc ls H locs c' s' r M' h1 h2 h3 h4 h5 h6 => hret pc ls H locs c' s' r M' h1 h2 h3 h4 (by omega) (by omega))
  unfold hg_cell
  rw [hk]
  show H1[hg_ad E k (X.2.1 k)]? = some (arrV _ (hg_up2 X.2.2 k (X.2.1 k) n.toNatClampNeg k (X.2.1 k)) _)
  rw [ha, e1, show hg_up2 X.2.2 k (X.2.1 k) n.toNatClampNeg k (X.2.1 k) = n.toNatClampNeg by simp [hg_up2], hcA]
  congr 2
  funext j
  unfold hg_av
  show _ = if hg_ty k ≤ 2 then Value.int (hg_z3 I k (X.2.1 k) 0 k (X.2.1 k) j) else if hg_ty k = 3 then Value.long (hg_z3 Lg k (X.2.1 k) 0 k (X.2.1 k) j) else hg_rv E (hg_z3 Rf k (X.2.1 k) none k (X.2.1 k) j)
  rw [if_neg (by rcases hty with ⟨h, -⟩ | ⟨h, -⟩ <;> omega), if_neg (by rcases hty with ⟨h, -⟩ | ⟨h, -⟩ <;> omega), show hg_z3 Rf k (X.2.1 k) none k (X.2.1 k) j = none by simp [hg_z3]]
  rfl
theorem hg_objInit {idx : Nat} {a : Nat} (hd : hg_D Y pc pc' 3 (.invokespecial idx)) (hl : Cond.methodLink Y.1.cls idx objectInit ∈ hg_T) (kk : hg_WP l E d Y mc ms pc' loc [] M Q) : hg_WP l E d Y mc ms pc loc [.ref a] M Q := by
  intro p e R s m args below meth c0 H locs cells slots Z ls hF hK hR hP hS hL hz hret
  obtain ⟨hd, rfl⟩ := hd
  obtain ⟨-, lv, h1, -⟩ := id hL
  refine W.objInit hF.1 hF.2.1 hF.2.2.2.1 (hF.ts hl) (hF.ts hg_oi1) (hF.ts hg_oi2) rfl (by rw [hF.2.2.1]; exact h1.1) rfl hd (by omega) (by show 2 * 0 + 0 + 12 ≤ _; omega) ?_
  exact W.eq (g2 := F0 m (pc + 3) ls []) rfl (kk p e R s m args below meth c0 H locs cells slots Z ls hF hK hR hP hS hL hz hret)
-- statics, Strings' own rows, min, copies, switches
theorem hg_gets {idx : Nat} {C n dd : String} {v : Value} (hd : hg_D Y pc pc' 3 (.getstatic idx)) (hl : Cond.fieldLink Y.1.cls idx C n dd ∈ hg_T) (hv : ∀ s, hg_kn E s → va_Z C n dd v (hg_A E) s s.heap) (kk : hg_WP l E d Y mc ms pc' loc (v :: st) M Q) : hg_WP l E d Y mc ms pc loc st M Q := by
  intro p e R s m args below meth c0 H locs cells slots Z ls hF hK hR hP hS hL hz hret
  obtain ⟨hd, rfl⟩ := hd
  exact va_gets hF.1 hF.2.1 (hv s hK) hS hF.2.2.2.1 (hF.ts hl) (fun x h => h) hd (kk p e R s m args below meth c0 H locs cells slots Z ls hF hK hR hP hS hL hz hret)
theorem hg_getsq {idx : Nat} {C n dd : String} (hd : hg_D Y pc pc' 3 (.getstatic idx)) (hl : Cond.fieldLink Y.1.cls idx C n dd ∈ hg_T) (hv : ∀ s, hg_kn E s → va_Zq C n dd (hg_A E) s s.heap) (kk : ∀ v : Value, (v = .null ∨ ∃ a, v = .ref a) → hg_WP l E d Y mc ms pc' loc (v :: st) M Q) : hg_WP l E d Y mc ms pc loc st M Q := by
  intro p e R s m args below meth c0 H locs cells slots Z ls hF hK hR hP hS hL hz hret
  obtain ⟨hd, rfl⟩ := hd
  rcases hv s hK with h | ⟨t, h⟩
  · exact va_gets hF.1 hF.2.1 h hS hF.2.2.2.1 (hF.ts hl) (fun x h => h) hd (kk .null (Or.inl rfl) p e R s m args below meth c0 H locs cells slots Z ls hF hK hR hP hS hL hz hret)
  · exact va_gets hF.1 hF.2.1 h hS hF.2.2.2.1 (hF.ts hl) (fun x h => h) hd (kk (.ref t) (Or.inr ⟨t, rfl⟩) p e R s m args below meth c0 H locs cells slots Z ls hF hK hR hP hS hL hz hret)
theorem hg_getS {idx : Nat} {o n dd : String} {q : Nat} {v : Value} (hd : hg_D Y pc pc' 3 (.getfield idx)) (hl : Cond.fieldLink Y.1.cls idx o n dd ∈ hg_T) (hv : ∀ s, hg_kn E s → va_OF o n dd v q (hg_A E) s s.heap) (kk : hg_WP l E d Y mc ms pc' loc (v :: st) M Q) : hg_WP l E d Y mc ms pc loc (.ref q :: st) M Q := by
  intro p e R s m args below meth c0 H locs cells slots Z ls hF hK hR hP hS hL hz hret
  obtain ⟨hd, rfl⟩ := hd
  exact vk_getf hF.1 hF.2.1 (hv s hK) hS hF.2.2.2.1 (hF.ts hl) (fun x h => h) hd (kk p e R s m args below meth c0 H locs cells slots Z ls hF hK hR hP hS hL hz hret)
theorem hg_sum8 {st : List Value} {R : Room} (h : (st.map fun v => v.category).sum ≤ 8) (hR : 40 * (d + 1) ≤ R.locals) : (st.map fun v => v.category).sum + 13 ≤ R.locals := by omega
theorem hg_min {idx : Nat} {x y : Int32} (hd : hg_D Y pc pc' 3 (.invokestatic idx)) (hl : Cond.methodLink Y.1.cls idx Lib.Math.min.name ∈ hg_T) (hw : (st.map fun v => v.category).sum ≤ 8) (kk : hg_WP l E d Y mc ms pc' loc (.int (if y < x then y else x) :: st) M Q) : hg_WP l E d Y mc ms pc loc (.int y :: .int x :: st) M Q := by
  intro p e R s m args below meth c0 H locs cells slots Z ls hF hK hR hP hS hL hz hret
  obtain ⟨hd, rfl⟩ := hd
  obtain ⟨-, lv, h1, -⟩ := id hL
  exact va_mmin hF.1 hF.2.1 (hF.2.2.1.trans h1.1.symm) hF.2.2.2.1 (hF.ts hl) (hF.ts hg_min1) (hF.ts hg_mth) (hF.ts hg_min2) (by omega) (hg_sum8 hw hR.2.1) (by omega) (by omega) hd (kk p e R s m args below meth c0 H locs cells slots Z ls hF hK hR hP hS hL hz hret)
theorem hg_max {idx : Nat} {x y : Int32} (hd : hg_D Y pc pc' 3 (.invokestatic idx)) (hl : Cond.methodLink Y.1.cls idx Lib.Math.max.name ∈ hg_T) (hw : (st.map fun v => v.category).sum ≤ 8) (kk : hg_WP l E d Y mc ms pc' loc (.int (if x < y then y else x) :: st) M Q) : hg_WP l E d Y mc ms pc loc (.int y :: .int x :: st) M Q := by
  intro p e R s m args below meth c0 H locs cells slots Z ls hF hK hR hP hS hL hz hret
  obtain ⟨hd, rfl⟩ := hd
  obtain ⟨-, lv, h1, -⟩ := id hL
  exact va_mmax hF.1 hF.2.1 (hF.2.2.1.trans h1.1.symm) hF.2.2.2.1 (hF.ts hl) (hF.ts hg_max1) (hF.ts hg_mth) (hF.ts hg_max2) (by omega) (hg_sum8 hw hR.2.1) (by omega) (by omega) hd (kk p e R s m args below meth c0 H locs cells slots Z ls hF hK hR hP hS hL hz hret)
theorem hg_tabO {dflt lo hi : Int} {offs : Array Int} {n tgt : Nat} {x : Int32} (hd : hg_D Y pc pc' n (.tableswitch dflt lo hi offs)) (h : x.toInt < lo ∨ hi < x.toInt) (ht : (pc : Int) + dflt = (tgt : Int)) (kk : hg_WP l E d Y mc ms tgt loc st M Q) : hg_WP l E d Y mc ms pc loc (.int x :: st) M Q := by
  intro p e R s m args below meth c0 H locs cells slots Z ls hF hK hR hP hS hL hz hret
  exact lv_tableOut hF.1 hF.2.1 hd.1 h ht (kk p e R s m args below meth c0 H locs cells slots Z ls hF hK hR hP hS hL hz hret)
theorem hg_tabI {dflt lo hi off : Int} {offs : Array Int} {n tgt : Nat} {x : Int32} (hd : hg_D Y pc pc' n (.tableswitch dflt lo hi offs)) (h1 : ¬ x.toInt < lo) (h2 : ¬ hi < x.toInt) (ho : offs[(x.toInt - lo).toNat]? = some off) (ht : (pc : Int) + off = (tgt : Int)) (kk : hg_WP l E d Y mc ms tgt loc st M Q) : hg_WP l E d Y mc ms pc loc (.int x :: st) M Q := by
  intro p e R s m args below meth c0 H locs cells slots Z ls hF hK hR hP hS hL hz hret
  exact lv_tableIn hF.1 hF.2.1 hd.1 h1 h2 ho ht (kk p e R s m args below meth c0 H locs cells slots Z ls hF hK hR hP hS hL hz hret)
theorem hg_look {dflt off : Int} {ps : Array (Int × Int)} {n tgt : Nat} {x : Int32} (hd : hg_D Y pc pc' n (.lookupswitch dflt ps)) (hp : (ps.toList.zip (ps.toList.drop 1)).all (fun (a, next) => a.1 < next.1) = true) (ho : Op.lookupswitch.offset ps.toList dflt x.toInt = off) (ht : (pc : Int) + off = (tgt : Int)) (kk : hg_WP l E d Y mc ms tgt loc st M Q) : hg_WP l E d Y mc ms pc loc (.int x :: st) M Q := by
  intro p e R s m args below meth c0 H locs cells slots Z ls hF hK hR hP hS hL hz hret
  exact lv_lookup hF.1 hF.2.1 hd.1 hp ho ht (kk p e R s m args below meth c0 H locs cells slots Z ls hF hK hR hP hS hL hz hret)
end HG
