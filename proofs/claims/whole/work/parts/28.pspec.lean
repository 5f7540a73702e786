/-! THE TEXT read, apart from either class -/
abbrev ps_R : Type := Bool × Nat × ((Nat → Int32) → Bool)
def ps_sg (n : Nat) (L : Nat → Int32) (p : Nat) (c : Int32) : Bool := decide (p < n ∧ L p = c)
def ps_dg (n : Nat) (L : Nat → Int32) (p : Nat) : Bool := decide (p < n ∧ 48 ≤ L p ∧ L p ≤ 57)
def ps_d (L : Nat → Int32) (p : Nat) : Nat := (L p).toNatClampNeg - 48
def ps_nm (n : Nat) (L : Nat → Int32) (p : Nat) : Bool × Nat × Nat := if ps_dg n L p = true then (if ps_dg n L (p + 1) = true then (true, p + 2, 10 * ps_d L p + ps_d L (p + 1)) else (true, p + 1, ps_d L p)) else (false, p, 0)
def ps_wd (n : Nat) (L : Nat → Int32) (t : Nat) : Nat → Nat → Nat → Bool × Nat
  | 0, _, p => (true, p)
  | k + 1, j, p => if ps_sg n L p (hg_sc' t j) = true then ps_wd n L t k (j + 1) (p + 1) else (false, p)
def ps_cmp (b : Nat) (x y : Int32) : Bool := if b = 0 then decide (x < y) else if b = 1 then decide (x = y) else decide (y < x)
def ps_ix (n : Nat) (L : Nat → Int32) (t p : Nat) : Option Nat := if p < n then hs_ix (hg_sz t) (hg_fc t (L p) (hg_sz t) 0) else none
def ps_test (n : Nat) (L : Nat → Int32) (p : Nat) : ps_R := match ps_ix n L 3 p with
  | none => (false, p, fun _ => false)
  | some a => match ps_ix n L 4 (p + 1) with
    | none => (false, p + 1, fun _ => false)
    | some b => ((ps_nm n L (p + 2)).1, (ps_nm n L (p + 2)).2.1, fun f => ps_cmp b (f a) (nI (ps_nm n L (p + 2)).2.2))
def ps_lp (n : Nat) (L : Nat → Int32) (c : Int32) (op : Bool → Bool → Bool) (F : Nat → ps_R) : Nat → ps_R → ps_R
  | 0, q => q
  | k + 1, q => if q.1 = true ∧ ps_sg n L q.2.1 c = true then ps_lp n L c op F k ((F (q.2.1 + 1)).1, (F (q.2.1 + 1)).2.1, fun f => op (q.2.2 f) ((F (q.2.1 + 1)).2.2 f)) else q
def ps_T (n : Nat) (L : Nat → Int32) (F : Nat → ps_R) (p : Nat) : ps_R := ps_lp n L 38 and F 100 (F p)
def ps_E (n : Nat) (L : Nat → Int32) (F : Nat → ps_R) (p : Nat) : ps_R := ps_lp n L 124 or (ps_T n L F) 100 (ps_T n L F p)
def ps_F (n : Nat) (L : Nat → Int32) : Nat → Nat → ps_R
  | 0, p => ps_test n L p
  | r + 1, p => if ps_sg n L p 33 = true then ((ps_F n L r (p + 1)).1, (ps_F n L r (p + 1)).2.1, fun f => !(ps_F n L r (p + 1)).2.2 f)
    else if ps_sg n L p 40 = true then (if (ps_E n L (ps_F n L r) (p + 1)).1 = true ∧ ps_sg n L (ps_E n L (ps_F n L r) (p + 1)).2.1 41 = true then (true, (ps_E n L (ps_F n L r) (p + 1)).2.1 + 1, (ps_E n L (ps_F n L r) (p + 1)).2.2) else (false, (ps_E n L (ps_F n L r) (p + 1)).2.1, (ps_E n L (ps_F n L r) (p + 1)).2.2))
    else ps_test n L p
/-- what a CLAUSE makes of fears, ILL -/
abbrev ps_C : Type := Bool × Nat × ((Nat → Int32) → Int32) × Int32
def ps_ill (n : Nat) (L : Nat → Int32) (p : Nat) (g : (Nat → Int32) → Int32) (i : Int32) : ps_C :=
  if (ps_wd n L 0 4 0 p).1 = true then ((ps_nm n L (ps_wd n L 0 4 0 p).2).1, (ps_nm n L (ps_wd n L 0 4 0 p).2).2.1, g, if (ps_nm n L (ps_wd n L 0 4 0 p).2).1 = true then nI (ps_nm n L (ps_wd n L 0 4 0 p).2).2.2 else i) else (false, (ps_wd n L 0 4 0 p).2, g, i)
/-- behind the number: a space, E -/
def ps_sp (n : Nat) (L : Nat → Int32) (sg : Bool) (v p : Nat) (g : (Nat → Int32) → Int32) (i : Int32) : ps_C :=
  if ps_sg n L p 32 = true then ((ps_E n L (ps_F n L 4) (p + 1)).1, (ps_E n L (ps_F n L 4) (p + 1)).2.1, (fun f => g f + (if (ps_E n L (ps_F n L 4) (p + 1)).2.2 f = true then (if sg = true then nI v else -nI v) else 0)), i) else (false, p, g, i)
def ps_fe (n : Nat) (L : Nat → Int32) (t : Nat) (sg : Bool) (p : Nat) (g : (Nat → Int32) → Int32) (i : Int32) : ps_C :=
  if (ps_wd n L t 5 0 p).1 = true then (if (ps_nm n L (ps_wd n L t 5 0 p).2).1 = true then ps_sp n L sg (ps_nm n L (ps_wd n L t 5 0 p).2).2.2 (ps_nm n L (ps_wd n L t 5 0 p).2).2.1 g i else (false, (ps_nm n L (ps_wd n L t 5 0 p).2).2.1, g, i)) else (false, (ps_wd n L t 5 0 p).2, g, i)
def ps_cl (n : Nat) (L : Nat → Int32) (p : Nat) (g : (Nat → Int32) → Int32) (i : Int32) : ps_C :=
  if ps_sg n L p 105 = true then ps_ill n L p g i else if ps_sg n L p 102 = true then ps_fe n L 1 true p g i else ps_fe n L 2 false p g i
def ps_cs (n : Nat) (L : Nat → Int32) : Nat → ps_C → ps_C
  | 0, q => q
  | k + 1, q => if q.1 = true ∧ ps_sg n L q.2.1 59 = true then ps_cs n L k (ps_cl n L (q.2.1 + 1) q.2.2.1 q.2.2.2) else q
def ps_tw (n : Nat) (L : Nat → Int32) : ps_C := ps_cs n L 9 (ps_cl n L 0 (fun _ => 0) 60)
def hs_N (f : Nat → Int32) : Nat → Int32 := fun j => if j < 6 then f j else 0
abbrev gsT (G : hs_G) (σ : hs_S) (x : Nat × (Nat → Int32)) (W : hs_W) : hs_G := (σ, gI G, gL G, gH G, x, gT G + 1, gK G, gP G, W)
noncomputable def so_town (G : hs_G) : Int32 × hs_G := if gT G = 6 then (-4, G) else if (ps_tw (gX G).1 (gX G).2).1 = true ∧ (ps_tw (gX G).1 (gX G).2).2.1 = (gX G).1 then
    (nI (gT G), gsT G ((gN G).1, hs_st (gN G), hs_hv (gN G), hs_rw (gN G), gT G + 1) (0, (gX G).2) (fun t => if t = gT G + 1 then ((fun f => (ps_tw (gX G).1 (gX G).2).2.2.1 (hs_N f)), (ps_tw (gX G).1 (gX G).2).2.2.2) else gW G t))
  else (-10 - nI (ps_tw (gX G).1 (gX G).2).2.1, gsX G (0, (gX G).2))
/-! places only grow, and stay within -/
theorem ps_sg_t {n p : Nat} {L : Nat → Int32} {c : Int32} (h : ps_sg n L p c = true) : p < n ∧ L p = c := of_decide_eq_true h
theorem ps_sg_f {n p : Nat} {L : Nat → Int32} {c : Int32} (h : ¬ (p < n ∧ L p = c)) : ps_sg n L p c = false := decide_eq_false h
theorem ps_dg_t {n p : Nat} {L : Nat → Int32} (h : ps_dg n L p = true) : p < n ∧ 48 ≤ L p ∧ L p ≤ 57 := of_decide_eq_true h
theorem ps_nm_le {n p : Nat} {L : Nat → Int32} (hp : p ≤ n) : p ≤ (ps_nm n L p).2.1 ∧ (ps_nm n L p).2.1 ≤ n ∧ ((ps_nm n L p).1 = true → p < (ps_nm n L p).2.1) := by
  unfold ps_nm
  split
  · rename_i h; have := ps_dg_t h
    split
    · rename_i h; have := ps_dg_t h; exact ⟨by show p ≤ p + 2; omega, by show p + 2 ≤ n; omega, fun _ => by show p < p + 2; omega⟩
    · exact ⟨by show p ≤ p + 1; omega, by show p + 1 ≤ n; omega, fun _ => by show p < p + 1; omega⟩
  · exact ⟨Nat.le_refl _, hp, fun z => by cases z⟩
def ps_ok (n : Nat) (F : Nat → ps_R) : Prop := ∀ p, p ≤ n → p ≤ (F p).2.1 ∧ (F p).2.1 ≤ n ∧ ((F p).1 = true → p < (F p).2.1)
theorem ps_ix_t {n p t a : Nat} {L : Nat → Int32} (h : ps_ix n L t p = some a) : p < n ∧ a < hg_sz t := by
  unfold ps_ix at h
  split at h
  · exact ⟨by assumption, (hs_ix_of h).1⟩
  · cases h
theorem ps_test_ok (n : Nat) (L : Nat → Int32) : ps_ok n (ps_test n L) := by
  intro p hp
  unfold ps_test
  cases h1 : ps_ix n L 3 p with
  | none => exact ⟨Nat.le_refl _, hp, fun z => by cases z⟩
  | some a =>
    have := (ps_ix_t h1).1
    cases h2 : ps_ix n L 4 (p + 1) with
    | none => exact ⟨Nat.le_succ _, this, fun z => by cases z⟩
    | some b =>
      have := (ps_ix_t h2).1
      have := ps_nm_le (L := L) (show p + 2 ≤ n by omega)
      exact ⟨by show p ≤ (ps_nm n L (p + 2)).2.1; omega, this.2.1, fun z => by show p < (ps_nm n L (p + 2)).2.1; omega⟩
theorem ps_lp_ok {n : Nat} {L : Nat → Int32} {c : Int32} {op : Bool → Bool → Bool} {F : Nat → ps_R} (hF : ps_ok n F) : ∀ (k : Nat) (q : ps_R) (p : Nat), p ≤ q.2.1 → q.2.1 ≤ n → (q.1 = true → p < q.2.1) → p ≤ (ps_lp n L c op F k q).2.1 ∧ (ps_lp n L c op F k q).2.1 ≤ n ∧ ((ps_lp n L c op F k q).1 = true → p < (ps_lp n L c op F k q).2.1)
  | 0, q, p, h1, h2, h3 => ⟨h1, h2, h3⟩
  | k + 1, q, p, h1, h2, h3 => by
    unfold ps_lp
    split
    · rename_i z
      have := ps_sg_t z.2
      obtain ⟨g1, g2, g3⟩ := hF (q.2.1 + 1) (by omega)
      exact ps_lp_ok hF k _ p (by show p ≤ (F (q.2.1 + 1)).2.1; omega) g2 (fun y => by show p < (F (q.2.1 + 1)).2.1; omega)
    · exact ⟨h1, h2, h3⟩
theorem ps_T_ok {n : Nat} {L : Nat → Int32} {F : Nat → ps_R} (hF : ps_ok n F) : ps_ok n (ps_T n L F) := fun p hp => ps_lp_ok hF 100 _ p (hF p hp).1 (hF p hp).2.1 (hF p hp).2.2
theorem ps_E_ok {n : Nat} {L : Nat → Int32} {F : Nat → ps_R} (hF : ps_ok n F) : ps_ok n (ps_E n L F) := fun p hp => ps_lp_ok (ps_T_ok hF) 100 _ p (ps_T_ok hF p hp).1 (ps_T_ok hF p hp).2.1 (ps_T_ok hF p hp).2.2
theorem ps_F_ok (n : Nat) (L : Nat → Int32) : ∀ r, ps_ok n (ps_F n L r)
  | 0 => ps_test_ok n L
  | r + 1 => by
    intro p hp
    unfold ps_F
    split
    · rename_i z
      have := ps_sg_t z
      obtain ⟨g1, g2, g3⟩ := ps_F_ok n L r (p + 1) (by omega)
      exact ⟨by show p ≤ (ps_F n L r (p + 1)).2.1; omega, g2, fun y => by show p < (ps_F n L r (p + 1)).2.1; omega⟩
    · split
      · rename_i z
        have := ps_sg_t z
        obtain ⟨g1, g2, g3⟩ := ps_E_ok (L := L) (ps_F_ok n L r) (p + 1) (by omega)
        split
        · rename_i y
          have := ps_sg_t y.2
          exact ⟨by show p ≤ (ps_E n L (ps_F n L r) (p + 1)).2.1 + 1; omega, by show (ps_E n L (ps_F n L r) (p + 1)).2.1 + 1 ≤ n; omega, fun _ => by show p < (ps_E n L (ps_F n L r) (p + 1)).2.1 + 1; omega⟩
        · exact ⟨by show p ≤ (ps_E n L (ps_F n L r) (p + 1)).2.1; omega, g2, fun y => by cases y⟩
      · exact ps_test_ok n L p hp
/-! bits -/
theorem nI_or (a b : Nat) : nI a ||| nI b = nI (a ||| b) := by
  apply Int32.toBitVec_inj.mp
  apply BitVec.eq_of_toNat_eq
  show (a % 2 ^ 32) ||| (b % 2 ^ 32) = (a ||| b) % 2 ^ 32
  exact (Nat.or_mod_two_pow).symm
theorem nI_xor (a b : Nat) : nI a ^^^ nI b = nI (a ^^^ b) := by
  apply Int32.toBitVec_inj.mp
  apply BitVec.eq_of_toNat_eq
  show (a % 2 ^ 32) ^^^ (b % 2 ^ 32) = (a ^^^ b) % 2 ^ 32
  exact (Nat.xor_mod_two_pow).symm
theorem nb_or1 (m : Nat) : 2 * m ||| 1 = 2 * m + 1 := (Nat.two_pow_add_eq_or_of_lt (i := 1) (b := 1) (by decide) m).symm
def nb (b : Bool) : Nat := if b = true then 1 else 0
theorem nb_le (b : Bool) : nb b ≤ 1 := by cases b <;> decide
theorem nb_push (m : Nat) (b : Bool) (hm : 2 * m < 2 ^ 32) : (nI m <<< ((1 : Int32) &&& 31)) ||| (if b = true then 1 else 0) = nI (2 * m + nb b) := by
  rw [show (1 : Int32) &&& 31 = 1 by decide, pk_shlN 1 1 (by decide) (by omega), show m * 2 ^ 1 = 2 * m by omega]
  cases b
  · show nI (2 * m) ||| nI 0 = _
    rw [nI_or, Nat.or_zero]; rfl
  · show nI (2 * m) ||| nI 1 = _
    rw [nI_or, nb_or1]; rfl
theorem nb_not (m : Nat) (b : Bool) : nI (2 * m + nb b) ^^^ 1 = nI (2 * m + nb (!b)) := by
  show nI (2 * m + nb b) ^^^ nI 1 = _
  rw [nI_xor]
  congr 1
  cases b
  · show (2 * m) ^^^ 1 = 2 * m + 1
    rw [← nb_or1]
    apply Nat.eq_of_testBit_eq
    intro i
    rw [Nat.testBit_xor, Nat.testBit_or]
    cases i with
    | zero => simp
    | succ i => rw [show Nat.testBit 1 (i + 1) = false by simp [Nat.testBit_succ]]; simp
  · show (2 * m + 1) ^^^ 1 = 2 * m
    rw [← nb_or1]
    apply Nat.eq_of_testBit_eq
    intro i
    rw [Nat.testBit_xor, Nat.testBit_or]
    cases i with
    | zero => simp
    | succ i => rw [show Nat.testBit 1 (i + 1) = false by simp [Nat.testBit_succ]]; simp
theorem nb_or (m : Nat) (b c : Bool) (hm : 4 * m + 3 < 2 ^ 31) : (nI (2 * (2 * m + nb b) + nb c) >>> ((1 : Int32) &&& 31)) ||| (nI (2 * (2 * m + nb b) + nb c) &&& 1) = nI (2 * m + nb (b || c)) := by
  have hb := nb_le b
  have hc := nb_le c
  rw [show (1 : Int32) &&& 31 = 1 by decide, pk_shrN (by omega) 1 1 (by decide), pk_andN (n := 2 * (2 * m + nb b) + nb c) (by omega) 1 (by decide)]
  rw [show (2 * (2 * m + nb b) + nb c) / 2 ^ 1 = 2 * m + nb b by omega, show (2 * (2 * m + nb b) + nb c) % 2 ^ 1 = nb c by omega, nI_or]
  congr 1
  cases b <;> cases c
  · exact Nat.or_zero _
  · exact nb_or1 m
  · exact Nat.or_zero _
  · show (2 * m + 1) ||| 1 = 2 * m + 1
    rw [← nb_or1, Nat.or_assoc, Nat.or_self]
theorem nb_m2 (x : Int32) : x ||| (-2) = (-2) ||| (x &&& 1) := by
  apply Int32.toBitVec_inj.mp
  apply BitVec.eq_of_getLsbD_eq
  intro i hi
  show (x.toBitVec ||| (4294967294#32)).getLsbD i = ((4294967294#32) ||| (x.toBitVec &&& 1#32)).getLsbD i
  rw [BitVec.getLsbD_or, BitVec.getLsbD_or, BitVec.getLsbD_and]
  have h : ∀ i, i < 32 → (i = 0 ∨ (4294967294#32).getLsbD i = true) := by decide
  rcases h i hi with rfl | h
  · simp
  · rw [h]; simp
theorem nb_and (m : Nat) (b c : Bool) (hm : 4 * m + 3 < 2 ^ 31) : (nI (2 * (2 * m + nb b) + nb c) >>> ((1 : Int32) &&& 31)) &&& (nI (2 * (2 * m + nb b) + nb c) ||| (-2)) = nI (2 * m + nb (b && c)) := by
  have hb := nb_le b
  have hc := nb_le c
  rw [nb_m2, show (1 : Int32) &&& 31 = 1 by decide, pk_shrN (by omega) 1 1 (by decide), pk_andN (n := 2 * (2 * m + nb b) + nb c) (by omega) 1 (by decide)]
  rw [show (2 * (2 * m + nb b) + nb c) / 2 ^ 1 = 2 * m + nb b by omega, show (2 * (2 * m + nb b) + nb c) % 2 ^ 1 = nb c by omega]
  cases c
  · rw [Bool.and_false, show (-2 : Int32) ||| nI (nb false) = -2 by decide]
    apply Int32.toBitVec_inj.mp
    apply BitVec.eq_of_toNat_eq
    show ((2 * m + nb b) % 2 ^ 32) &&& 4294967294 = (2 * m + nb false) % 2 ^ 32
    rw [Nat.mod_eq_of_lt (by omega), Nat.mod_eq_of_lt (by show 2 * m + 0 < _; omega)]
    apply Nat.eq_of_testBit_eq
    intro i
    rw [Nat.testBit_and, show (4294967294 : Nat) = 2 ^ 32 - (1 + 1) by decide, Nat.testBit_two_pow_sub_succ (by decide)]
    cases i with
    | zero => cases b <;> simp [nb]
    | succ i =>
      rw [Nat.testBit_succ, Nat.testBit_succ, Nat.testBit_succ, show (2 * m + nb b) / 2 = m by omega, show (2 * m + nb false) / 2 = m by show (2 * m + 0) / 2 = m; omega]
      by_cases hi : i + 1 < 32
      · simp [hi, Nat.testBit_succ]
      · rw [Nat.testBit_lt_two_pow (show m < 2 ^ i from Nat.lt_of_lt_of_le (show m < 2 ^ 31 by omega) (Nat.pow_le_pow_right (by decide) (by omega)))]; simp
  · rw [Bool.and_true, show (-2 : Int32) ||| nI (nb true) = -1 by decide]
    exact Int32.and_neg_one
/-- a row of steps puts a bit there -/
def ps_ev (cd : Nat → Int32) (w k b : Nat) (den : (Nat → Int32) → Bool) : Prop := ∀ (f : Nat → Int32) (D m : Nat) (s : Int32), m < 2 ^ D → D + b ≤ 29 → hc_ev cd f (s, nI m) w k = (s, nI (2 * m + nb (den (hs_N f))))
theorem hc_ev_add (cd : Nat → Int32) (f : Nat → Int32) : ∀ (k j : Nat) (q : Int32 × Int32) (i : Nat), hc_ev cd f q i (k + j) = hc_ev cd f (hc_ev cd f q i k) (i + k) j
  | 0, j, q, i => by rw [Nat.zero_add]; rfl
  | k + 1, j, q, i => by
    rw [show k + 1 + j = (k + j) + 1 by omega]
    show hc_ev cd f (hc_st f q (cd i)) (i + 1) (k + j) = hc_ev cd f (hc_ev cd f (hc_st f q (cd i)) (i + 1) k) (i + (k + 1)) j
    rw [hc_ev_add cd f k j, show i + 1 + k = i + (k + 1) by omega]
theorem hc_ev_cg {cd cd' : Nat → Int32} (f : Nat → Int32) : ∀ (k : Nat) (q : Int32 × Int32) (i : Nat), (∀ j, i ≤ j → j < i + k → cd' j = cd j) → hc_ev cd' f q i k = hc_ev cd f q i k
  | 0, q, i, _ => rfl
  | k + 1, q, i, h => by
    show hc_ev cd' f (hc_st f q (cd' i)) (i + 1) k = hc_ev cd f (hc_st f q (cd i)) (i + 1) k
    rw [h i (Nat.le_refl _) (by omega)]
    exact hc_ev_cg f k _ (i + 1) (fun j h1 h2 => h j (by omega) (by omega))
theorem ps_ev.cg {cd cd' : Nat → Int32} {w k b : Nat} {den : (Nat → Int32) → Bool} (h : ps_ev cd w k b den) (e : ∀ j, w ≤ j → j < w + k → cd' j = cd j) : ps_ev cd' w k b den := fun f D m s hm hD => by rw [hc_ev_cg f k _ w e]; exact h f D m s hm hD
theorem ps_ev.le {cd : Nat → Int32} {w k b b' : Nat} {den : (Nat → Int32) → Bool} (h : ps_ev cd w k b den) (hb : b ≤ b') : ps_ev cd w k b' den := fun f D m s hm hD => h f D m s hm (by omega)
theorem nb_lt {m D : Nat} {b : Bool} (h : m < 2 ^ D) : 2 * m + nb b < 2 ^ (D + 1) := by have := nb_le b; rw [Nat.pow_succ]; omega
theorem ps_ev.not {cd : Nat → Int32} {w k b : Nat} {den : (Nat → Int32) → Bool} (h : ps_ev cd w k b den) (hc : cd (w + k) = 3) : ps_ev cd w (k + 1) b (fun f => !den f) := by
  intro f D m s hm hD
  rw [hc_ev_add, h f D m s hm hD]
  show hc_st f (s, nI (2 * m + nb (den (hs_N f)))) (cd (w + k)) = _
  rw [hc, ← nb_not]
  rfl
theorem ps_ev.bin {cd : Nat → Int32} {w k j b : Nat} {den den2 : (Nat → Int32) → Bool} {c : Int32} {op : Bool → Bool → Bool} (hop : (c = 5 ∧ op = or) ∨ (c = 4 ∧ op = and)) (h : ps_ev cd w k (b + 1) den) (h2 : ps_ev cd (w + k) j b den2) (hc : cd (w + k + j) = c) : ps_ev cd w (k + j + 1) (b + 1) (fun f => op (den f) (den2 f)) := by
  intro f D m s hm hD
  have hp : 2 ^ D ≤ 2 ^ 28 := Nat.pow_le_pow_right (by decide) (by omega)
  rw [hc_ev_add, hc_ev_add, h f D m s hm (by omega), h2 f (D + 1) _ s (nb_lt hm) (by omega)]
  show hc_st f (s, nI (2 * (2 * m + nb (den (hs_N f))) + nb (den2 (hs_N f)))) (cd (w + (k + j))) = _
  rw [show w + (k + j) = w + k + j by omega, hc]
  rcases hop with ⟨rfl, rfl⟩ | ⟨rfl, rfl⟩
  · show (s, _) = _
    rw [← nb_or m _ _ (by omega)]
  · show (s, _) = _
    rw [← nb_and m _ _ (by omega)]

