/-! what each call answers, apart from either class -/
def hs_ix (n : Nat) (x : Int32) : Option Nat := if x.toNatClampNeg < n ∧ nI x.toNatClampNeg = x then some x.toNatClampNeg else none
theorem hs_ix_s {n j : Nat} (h : j < n) (hn : n ≤ 2 ^ 31) : hs_ix n (nI j) = some j := by
  unfold hs_ix
  rw [nI_clamp (by omega), if_pos ⟨h, rfl⟩]
theorem hs_ix_n {n : Nat} {x : Int32} (h : ¬ ∃ j : Nat, j < n ∧ x = nI j) : hs_ix n x = none := by
  unfold hs_ix
  rw [if_neg (fun q => h ⟨_, q.1, q.2.symm⟩)]
theorem hs_ix_n2 {b : Nat} {x : Int32} (h : ¬ ∃ j : Nat, j ≤ b ∧ x = nI j) : hs_ix (b + 1) x = none := hs_ix_n (fun ⟨j, h1, h2⟩ => h ⟨j, by omega, h2⟩)
theorem hs_ix_of {n : Nat} {x : Int32} {j : Nat} (h : hs_ix n x = some j) : j < n ∧ x = nI j := by
  unfold hs_ix at h
  split at h
  · rename_i q; cases h; exact ⟨q.1, q.2.symm⟩
  · cases h
/-- how many, the first -/
def hs_cnt (f : Nat → Bool) : Nat → Nat
  | 0 => 0
  | k + 1 => if f k = true then hs_cnt f k + 1 else hs_cnt f k
def hs_fst (f : Nat → Bool) : Nat → Int32
  | 0 => -5
  | k + 1 => if f k = true ∧ hs_cnt f k = 0 then nI k else hs_fst f k
noncomputable def hs_B (p : Prop) : Bool := @decide p (Classical.propDecidable p)
theorem hs_B_t {p : Prop} : hs_B p = true ↔ p := @decide_eq_true_iff _ (Classical.propDecidable _)
theorem hs_B_f {p : Prop} : hs_B p = false ↔ ¬ p := @decide_eq_false_iff_not _ (Classical.propDecidable _)
/-- a fraction in lowest terms -/
def hs_fr (a b : Nat) (part : Nat) : Int64 := if part = 0 then lN (a / Nat.gcd a b) else lN (b / Nat.gcd a b)
def hs_bits (f : Nat → Bool) : Nat → Int32
  | 0 => 0
  | k + 1 => if f k = true then hs_bits f k ||| ((1 : Int32) <<< (nI k &&& 31)) else hs_bits f k
def hs_plc (σ : hs_S) (h : Nat) : Nat := ((List.range (hs_n σ)).find? (fun j => hs_st σ j == h)).getD 0
def hs_h5 : Option Nat → Int32
  | none => -5
  | some h => nI h
noncomputable def sp_cm (tw : hs_W) (σ : hs_S) (h : Nat) : Nat → Nat → Int32
  | 0, _ => -5
  | k + 1, i => if hs_ho tw (hs_th tw σ i) = some h then nI i else sp_cm tw σ h k (i + 1)
noncomputable def sp_of (tw : hs_W) (σ : hs_S) (x w : Int32) : Int32 := match hs_ix (hs_n σ) x with
  | none => -10001
  | some h => if w = 0 then hs_hv σ h 0 else if w = 1 then hs_hv σ h 1 else if w = 2 then hs_hv σ h 2 else if w = 3 then hs_hv σ h 3 else if w = 4 then hs_hv σ h 4 else if w = 5 then hs_hv σ h 5 else if w = 6 then hs_hv σ h 6 else if w = 7 then hs_d tw σ h
    else if w = 8 then (if hs_illb tw σ h = true then 1 else 0) else if w = 9 then sp_cm tw σ h 61 0 else if w = 10 then nI (hs_plc σ h) else -10001
noncomputable def sp_told (tw : hs_W) (σ : hs_S) (w : Int32) : Int32 := if w = 0 then nI (hs_wk σ) else if w = 1 then (tw (hs_tn σ)).2 else if w = 2 then nI (hs_p σ) else if w = 3 then nI (hs_hu σ) else if w = 4 then nI (hs_cl σ) else if w = 5 then hs_h5 (hs_ho tw σ)
  else if w = 6 then hs_bits (hs_illb tw σ) (hs_n σ) else match hs_ix (hs_n σ) (w - 10) with
    | none => -1
    | some k => nI (hs_st σ k)
noncomputable def sp_on (tw : hs_W) (σ : hs_S) (n w : Int32) : Int32 :=
  if hs_ix 3 w = none ∧ hs_ix (hs_n σ) (w - 10) = none ∧ hs_ix (hs_n σ) (w - 20) = none then -1 else match hs_ix 61 n with
  | none => -2
  | some m => match hs_ix (hs_n σ) (w - 10) with
    | some h => hs_hv (hs_th tw σ m) h 4
    | none => match hs_ix (hs_n σ) (w - 20) with
      | some h => hs_hv (hs_th tw σ m) h 3
      | none => if w = 0 then hs_h5 (hs_ho tw (hs_th tw σ m)) else if w = 1 then nI (hs_cl (hs_th tw σ m)) else nI (hs_hu (hs_th tw σ m))
/-- two houses change their doors -/
def hs_chg (σ : hs_S) (p q : Nat) : hs_S := hs_sw2 σ (hs_plc σ p) (hs_plc σ q)
noncomputable def sp_d0 (tw : hs_W) (σ : hs_S) (m p q : Nat) (a : Nat × Int32) : Nat × Int32 := if hs_cl (hs_th tw (hs_chg σ p q) m) < a.1 then (hs_cl (hs_th tw (hs_chg σ p q) m), nI (10 * p + q)) else a
noncomputable def sp_d2 (tw : hs_W) (σ : hs_S) (m p : Nat) : Nat → Nat → Nat × Int32 → Nat × Int32
  | 0, _, a => a
  | k + 1, q, a => sp_d2 tw σ m p k (q + 1) (sp_d0 tw σ m p q a)
noncomputable def sp_d1 (tw : hs_W) (σ : hs_S) (m : Nat) : Nat → Nat → Nat × Int32 → Nat × Int32
  | 0, _, a => a
  | k + 1, p, a => sp_d1 tw σ m k (p + 1) (sp_d2 tw σ m p k (p + 1) a)
noncomputable def sp_doors (tw : hs_W) (σ : hs_S) (n : Int32) : Int32 := match hs_ix 21 n with
  | none => -2
  | some m => if m = 0 then -2 else (sp_d1 tw σ m (hs_n σ) 0 (hs_cl (hs_th tw σ m), -5)).2
-- feigning: a set is a number below 64
def hs_bt (s p : Nat) : Bool := s / 2 ^ p % 2 == 1
def hs_flip (s p : Nat) : Nat := if hs_bt s p = true then s - 2 ^ p else s + 2 ^ p
def hs_sub (s o : Nat) : Bool := (List.range 6).all fun p => !hs_bt s p || hs_bt o p
def hs_opn (σ : hs_S) : Nat → Nat
  | 0 => 0
  | k + 1 => if hs_hv σ k 6 = 0 then hs_opn σ k + 2 ^ k else hs_opn σ k
/-- all of the set shut too -/
def hs_shs (σ : hs_S) (s : Nat) : hs_S := (σ.1, hs_st σ, (fun h f => if f = 6 ∧ h < hs_n σ ∧ hs_bt s h = true then 1 else hs_hv σ h f), hs_rw σ, hs_tn σ)
/-- who was shut ahead is, and nobody else -/
def hs_shb (σ0 σ : hs_S) : hs_S := (σ.1, hs_st σ, (fun h f => if f = 6 ∧ h < hs_n σ then hs_hv σ0 h 6 else hs_hv σ h f), hs_rw σ, hs_tn σ)
noncomputable def sp_fg (tw : hs_W) (σ : hs_S) (m s : Nat) : hs_S := hs_th tw (hs_shb σ (hs_thu tw (hs_shs σ s))) (m - 1)
noncomputable def sp_rest (tw : hs_W) (σ : hs_S) (m s : Nat) : Bool := hs_B (∀ p, p < hs_n σ → hs_hv σ p 6 = 0 → ¬ hs_hv (sp_fg tw σ m (hs_flip s p)) p 4 < hs_hv (sp_fg tw σ m s) p 4)
noncomputable def sp_fok (tw : hs_W) (σ : hs_S) (m s : Nat) : Bool := hs_sub s (hs_opn σ (hs_n σ)) && sp_rest tw σ m s
noncomputable def sp_feign (tw : hs_W) (σ : hs_S) (n w : Int32) : Int32 := match hs_ix 2 w with
  | none => -1
  | some b => match hs_ix 7 n with
    | none => -2
    | some m => if m = 0 then -2 else if b = 0 then nI (hs_cnt (sp_fok tw σ m) (hs_opn σ (hs_n σ) + 1)) else hs_fst (sp_fok tw σ m) (hs_opn σ (hs_n σ) + 1)
-- seen
noncomputable def sp_seen (tw : hs_W) (σ : hs_S) (a : hs_L) : Bool := hs_B (∀ i, i < a.1 → ∀ m, m ≤ 12 → a.2.1 i = nI m → hs_hov (hs_ho tw (hs_th tw σ m)) = a.2.2 i)
noncomputable def sp_can (tw : hs_W) (σ : hs_S) (a : hs_L) (x y w : Int32) : Int32 := match hs_ix (hs_n σ) x, hs_ix 2 y, hs_ix 2 w with
  | some h, some q, some b => if b = 0 then nI (hs_cnt (fun k => sp_seen tw (hs_shv σ h (2 - q) (nI k)) a) (if q = 0 then 100 else 10)) else hs_fst (fun k => sp_seen tw (hs_shv σ h (2 - q) (nI k)) a) (if q = 0 then 100 else 10)
  | _, _, _ => -1
noncomputable def sp_odds (tw : hs_W) (σ : hs_S) (x p : Int32) : Int64 := match hs_ix (hs_n σ) x, hs_ix 2 p with
  | some h, some q => hs_fr (hs_cnt (fun k => hs_B (hs_ho tw (hs_shv σ k 6 1) = some h)) (hs_n σ)) (hs_n σ) q
  | _, _ => -9223372036854775808
def hs_sm (f : Nat → Nat) : Nat → Nat
  | 0 => 0
  | k + 1 => hs_sm f k + f k
noncomputable def sp_mean (tw : hs_W) (σ : hs_S) (n p : Int32) : Int64 := match hs_ix 61 n, hs_ix 2 p with
  | some m, some q => if hs_n σ = 0 then -9223372036854775808 else hs_fr (hs_sm (fun h => (hs_hv (hs_th tw σ m) h 4).toNatClampNeg) (hs_n σ)) (hs_n σ) q
  | _, _ => -9223372036854775808
-- plans
noncomputable def sp_go (tw : hs_W) (σ : hs_S) (x y : Int32) : hs_S := if x = 0 then hs_thu tw σ else if x = 3 then hs_shv σ y.toNatClampNeg 3 0 else if x = 1 then hs_shv σ y.toNatClampNeg 6 1 else hs_shv σ y.toNatClampNeg 6 0
noncomputable def sp_pl (tw : hs_W) (σ : hs_S) (a : hs_L) : Nat → hs_S
  | 0 => σ
  | k + 1 => sp_go tw (sp_pl tw σ a k) (a.2.1 k) (a.2.2 k)
noncomputable def sp_ends (tw : hs_W) (σ : hs_S) (a : hs_L) (w : Int32) : Int32 := match hs_ix 2 w with
  | none => -1
  | some b => if b = 0 then nI (hs_cl (sp_pl tw σ a a.1)) else nI (hs_hu (sp_pl tw σ a a.1))
def sp_lk (σ : hs_S) (a : hs_L) : Nat → Nat → Int32
  | 0, _ => -5
  | k + 1, i => if hs_hv σ (a.2.1 i).toNatClampNeg 4 = a.2.2 i then sp_lk σ a k (i + 1) else nI i
def sp_jd (σ : hs_S) (a : hs_P) (x : Int32) : Nat → Nat → Int32
  | 0, _ => -5
  | k + 1, i => match hs_ix a.2.1 (x + nI i) with
    | none => nI (100 + i)
    | some j => if a.2.2 j = (nI (hs_st σ i)).toInt64 then sp_jd σ a x k (i + 1) else nI i
theorem hs_plc_eq {T : Nat} {σ : hs_S} (hO : hs_ok T σ) {j : Nat} (hj : j < hs_n σ) : hs_plc σ (hs_st σ j) = j := by
  unfold hs_plc
  have h : (List.range (hs_n σ)).find? (fun i => hs_st σ i == hs_st σ j) = some j := by
    rw [List.find?_range_eq_some]
    refine ⟨by simp, by simpa using hj, fun i hi => ?_⟩
    have : hs_st σ i ≠ hs_st σ j := fun e => by have := hO.2.2.2.1 i j (by omega) hj e; omega
    simpa using this
  rw [h]
  rfl
theorem hs_plc_ok {T : Nat} {σ : hs_S} (hO : hs_ok T σ) {h : Nat} (hh : h < hs_n σ) : hs_plc σ h < hs_n σ ∧ hs_st σ (hs_plc σ h) = h := by
  obtain ⟨j, hj, rfl⟩ := hO.on hh
  rw [hs_plc_eq hO hj]
  exact ⟨hj, rfl⟩
theorem hs_ok.sw2 {T : Nat} {σ : hs_S} (hO : hs_ok T σ) {i j : Nat} (hi : i < hs_n σ) (hj : j < hs_n σ) : hs_ok T (hs_sw2 σ i j) := by
  obtain ⟨h1, h2, h3, h4, h5, h6, h7, h8⟩ := hO
  have key : ∀ q, hs_st (hs_sw2 σ i j) q = if q = j then hs_st σ i else if q = i then hs_st σ j else hs_st σ q := fun q => rfl
  refine ⟨h1, h2, fun q hq => ?_, fun a b ha hb e => ?_, h5, h6, h7, h8⟩
  · rw [key]
    have hq : q < hs_n σ := hq
    split
    · exact h3 i hi
    · split
      · exact h3 j hj
      · exact h3 q hq
  · have ha : a < hs_n σ := ha
    have hb : b < hs_n σ := hb
    rw [key, key] at e
    have := h4 i j hi hj; have := h4 a j ha hj; have := h4 a i ha hi; have := h4 b j hb hj; have := h4 b i hb hi; have := h4 a b ha hb; have := h4 i b hi hb; have := h4 j b hj hb; have := h4 i a hi ha; have := h4 j a hj ha
    split at e <;> split at e <;> (try split at e) <;> (try split at e) <;> first | omega | (have := this e; omega) | (have q1 := h4 _ _ (by assumption) (by assumption) e; omega)
theorem hs_ok.chg {T : Nat} {σ : hs_S} (hO : hs_ok T σ) {p q : Nat} (hp : p < hs_n σ) (hq : q < hs_n σ) : hs_ok T (hs_chg σ p q) := hO.sw2 (hs_plc_ok hO hp).1 (hs_plc_ok hO hq).1
theorem hs_ok.shv {T : Nat} {σ : hs_S} (hO : hs_ok T σ) {h f : Nat} {x : Int32} (h0 : f ≠ 0) (h4 : f ≠ 4) (h6 : f = 6 → x = 0 ∨ x = 1) : hs_ok T (hs_shv σ h f x) := by
  obtain ⟨g1, g2, g3, g4, g5, g6, g7, g8⟩ := hO
  refine ⟨g1, g2, g3, g4, fun h' hh' => ?_, g6, g7, g8⟩
  obtain ⟨q1, q2, q3⟩ := g5 h' hh'
  have key : ∀ g, hs_hv (hs_shv σ h f x) h' g = if h' = h ∧ g = f then x else hs_hv σ h' g := fun g => rfl
  rw [key, key, key]
  refine ⟨by rw [if_neg (fun z => h0 z.2.symm)]; exact q1, by rw [if_neg (fun z => h4 z.2.symm)]; exact q2, ?_⟩
  split
  · rename_i z; exact h6 z.2.symm
  · exact q3
/-- a whole street and all that is told beside it -/
abbrev hs_G : Type := hs_S × hs_S × (Nat → hs_L) × Bool × (Nat × (Nat → Int32)) × Nat × tk_S × (Nat → hs_P) × hs_W
abbrev gN (G : hs_G) : hs_S := G.1
abbrev gI (G : hs_G) : hs_S := G.2.1
abbrev gL (G : hs_G) : Nat → hs_L := G.2.2.1
abbrev gH (G : hs_G) : Bool := G.2.2.2.1
abbrev gX (G : hs_G) : Nat × (Nat → Int32) := G.2.2.2.2.1
abbrev gT (G : hs_G) : Nat := G.2.2.2.2.2.1
abbrev gK (G : hs_G) : tk_S := G.2.2.2.2.2.2.1
abbrev gP (G : hs_G) : Nat → hs_P := G.2.2.2.2.2.2.2.1
abbrev gW (G : hs_G) : hs_W := G.2.2.2.2.2.2.2.2
def hs_cp (r : Nat) : Nat := ([5, 5, 10, 10, 8, 8] : List Nat).getD r 0
/-- what the lists may hold beside n HOUSES -/
def hs_Lok (n : Nat) (a : hs_L) (k : Nat) : Prop := match k with
  | 0 => ∀ i, i < a.1 → (∃ m, m ≤ 12 ∧ a.2.1 i = nI m) ∧ (a.2.2 i = -1 ∨ ∃ h, h < n ∧ a.2.2 i = nI h)
  | 1 => ∀ i, i < a.1 → ∃ w, w ≤ 3 ∧ a.2.1 i = nI w ∧ (w = 0 ∨ ∃ h, h < n ∧ a.2.2 i = nI h)
  | _ => ∀ i, i < a.1 → ∃ h, h < n ∧ a.2.1 i = nI h
def hs_gok (G : hs_G) : Prop :=
  hs_ok (gT G) (gN G) ∧ hs_wk (gN G) ≤ 9999 ∧ (gH G = true → hs_ok (gT G) (gI G) ∧ hs_wk (gI G) ≤ 9999) ∧ (∀ r, r < 6 → (gL G r).1 ≤ hs_cp r) ∧ (∀ k, k < 3 → hs_Lok (hs_n (gN G)) (gL G (2 * k)) k) ∧ (gH G = true → ∀ k, k < 3 → hs_Lok (hs_n (gI G)) (gL G (2 * k + 1)) k) ∧
  (gX G).1 ≤ 100 ∧ (∀ j, j < (gX G).1 → ∃ c, c < 128 ∧ (gX G).2 j = nI c) ∧ gT G ≤ 6 ∧ (gK G).1 ≤ 1000 ∧ ∀ t, t < 6 → hs_Pok (gP G t)
