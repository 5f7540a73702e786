/-! the model's codes, and what they say -/
def me_st (f : Nat → Int32) (s : List Bool) (c : Nat) : List Bool := if 3 ≤ c then ps_cmp ((c - 3) / 100 % 3) (f ((c - 3) / 300)) (nI ((c - 3) % 100)) :: s
  else if c = 0 then (match s with | b :: t => (!b) :: t | [] => [])
  else (match s with | b :: a :: t => (if c = 1 then a && b else a || b) :: t | _ => s)
def me_ev (cd : Nat → Int32) (f : Nat → Int32) (s : List Bool) (i : Nat) : Nat → List Bool
  | 0 => s
  | k + 1 => me_ev cd f (me_st f s (cd i).toNatClampNeg) (i + 1) k
theorem me_ev_add (cd : Nat → Int32) (f : Nat → Int32) : ∀ (k j : Nat) (s : List Bool) (i : Nat), me_ev cd f s i (k + j) = me_ev cd f (me_ev cd f s i k) (i + k) j
  | 0, j, s, i => by rw [Nat.zero_add]; rfl
  | k + 1, j, s, i => by
    rw [show k + 1 + j = (k + j) + 1 by omega]
    show me_ev cd f (me_st f s (cd i).toNatClampNeg) (i + 1) (k + j) = me_ev cd f (me_ev cd f (me_st f s (cd i).toNatClampNeg) (i + 1) k) (i + (k + 1)) j
    rw [me_ev_add cd f k j, show i + 1 + k = i + (k + 1) by omega]
theorem me_ev_cg {cd cd' : Nat → Int32} (f : Nat → Int32) : ∀ (k : Nat) (s : List Bool) (i : Nat), (∀ j, i ≤ j → j < i + k → cd' j = cd j) → me_ev cd' f s i k = me_ev cd f s i k
  | 0, s, i, _ => rfl
  | k + 1, s, i, h => by
    show me_ev cd' f (me_st f s (cd' i).toNatClampNeg) (i + 1) k = me_ev cd f (me_st f s (cd i).toNatClampNeg) (i + 1) k
    rw [h i (Nat.le_refl _) (by omega)]
    exact me_ev_cg f k _ (i + 1) (fun j h1 h2 => h j (by omega) (by omega))
/-- how high the stack is then; none: it would run empty -/
def me_dep (cd : Nat → Int32) (i : Nat) : Nat → Nat → Option Nat
  | 0, d => some d
  | k + 1, d => if 3 ≤ (cd i).toNatClampNeg then me_dep cd (i + 1) k (d + 1) else if (cd i).toNatClampNeg = 0 then (if 1 ≤ d then me_dep cd (i + 1) k d else none) else (if 2 ≤ d then me_dep cd (i + 1) k (d - 1) else none)
theorem me_dep_add (cd : Nat → Int32) : ∀ (k j i d e : Nat), me_dep cd i k d = some e → me_dep cd i (k + j) d = me_dep cd (i + k) j e
  | 0, j, i, d, e, h => by cases h; rw [Nat.zero_add]; rfl
  | k + 1, j, i, d, e, h => by
    rw [show k + 1 + j = (k + j) + 1 by omega]
    unfold me_dep at h
    show (if 3 ≤ (cd i).toNatClampNeg then me_dep cd (i + 1) (k + j) (d + 1) else if (cd i).toNatClampNeg = 0 then (if 1 ≤ d then me_dep cd (i + 1) (k + j) d else none) else (if 2 ≤ d then me_dep cd (i + 1) (k + j) (d - 1) else none)) = _
    split
    · rename_i z; rw [if_pos z] at h; rw [me_dep_add cd k j (i + 1) (d + 1) e h, show i + 1 + k = i + (k + 1) by omega]
    · rename_i z; rw [if_neg z] at h
      split
      · rename_i y; rw [if_pos y] at h
        split
        · rename_i x; rw [if_pos x] at h; rw [me_dep_add cd k j (i + 1) d e h, show i + 1 + k = i + (k + 1) by omega]
        · rename_i x; rw [if_neg x] at h; cases h
      · rename_i y; rw [if_neg y] at h
        split
        · rename_i x; rw [if_pos x] at h; rw [me_dep_add cd k j (i + 1) (d - 1) e h, show i + 1 + k = i + (k + 1) by omega]
        · rename_i x; rw [if_neg x] at h; cases h
theorem me_dep_cg {cd cd' : Nat → Int32} : ∀ (k i d : Nat), (∀ j, i ≤ j → j < i + k → cd' j = cd j) → me_dep cd' i k d = me_dep cd i k d
  | 0, i, d, _ => rfl
  | k + 1, i, d, h => by
    unfold me_dep
    rw [h i (Nat.le_refl _) (by omega), me_dep_cg k (i + 1) (d + 1) (fun j h1 h2 => h j (by omega) (by omega)), me_dep_cg k (i + 1) d (fun j h1 h2 => h j (by omega) (by omega)), me_dep_cg k (i + 1) (d - 1) (fun j h1 h2 => h j (by omega) (by omega))]
/-- the codes from w on, k of them, put den there -/
def ps_me (cd : Nat → Int32) (w k : Nat) (den : (Nat → Int32) → Bool) : Prop := (∀ j, w ≤ j → j < w + k → ∃ c, c ≤ 1802 ∧ cd j = nI c) ∧ (∀ (f : Nat → Int32) (s : List Bool), me_ev cd f s w k = den (hs_N f) :: s) ∧ ∀ d, me_dep cd w k d = some (d + 1)
theorem ps_me.cg {cd cd' : Nat → Int32} {w k : Nat} {den : (Nat → Int32) → Bool} (h : ps_me cd w k den) (e : ∀ j, w ≤ j → j < w + k → cd' j = cd j) : ps_me cd' w k den := ⟨fun j h1 h2 => by rw [e j h1 h2]; exact h.1 j h1 h2, fun f s => by rw [me_ev_cg f k s w e]; exact h.2.1 f s, fun d => by rw [me_dep_cg k w d e]; exact h.2.2 d⟩
theorem ps_me.tst {cd : Nat → Int32} {w v a b : Nat} (hv : v < 100) (ha : a < 6) (hb : b < 3) (hc : cd w = nI (3 + 300 * a + 100 * b + v)) : ps_me cd w 1 (fun f => ps_cmp b (f a) (nI v)) := by
  refine ⟨fun j h1 h2 => ⟨3 + 300 * a + 100 * b + v, by omega, by rw [show j = w by omega]; exact hc⟩, fun f s => ?_, fun d => ?_⟩
  rotate_left
  · unfold me_dep; rw [hc, nI_clamp (by omega), if_pos (by omega)]; rfl
  show me_st f s (cd w).toNatClampNeg = _
  rw [hc, nI_clamp (by omega)]
  unfold me_st
  rw [if_pos (by omega), show (3 + 300 * a + 100 * b + v - 3) / 100 % 3 = b by omega, show (3 + 300 * a + 100 * b + v - 3) / 300 = a by omega, show (3 + 300 * a + 100 * b + v - 3) % 100 = v by omega]
  simp [hs_N, ha]
theorem ps_me.not {cd : Nat → Int32} {w k : Nat} {den : (Nat → Int32) → Bool} (h : ps_me cd w k den) (hc : cd (w + k) = 0) : ps_me cd w (k + 1) (fun f => !den f) := by
  refine ⟨fun j h1 h2 => ?_, fun f s => ?_, fun d => ?_⟩
  rotate_left 2
  · rw [me_dep_add cd k 1 w d _ (h.2.2 d)]; unfold me_dep; rw [hc, if_neg (by decide), if_pos (by decide), if_pos (by omega)]; rfl
  · by_cases e : j = w + k
    · rw [e]; exact ⟨0, by decide, hc⟩
    · exact h.1 j h1 (by omega)
  · rw [me_ev_add, h.2.1 f s]
    show me_st f (den (hs_N f) :: s) (cd (w + k)).toNatClampNeg = _
    rw [hc]
    rfl
theorem ps_me.bin {cd : Nat → Int32} {w k j c : Nat} {den den2 : (Nat → Int32) → Bool} {op : Bool → Bool → Bool} (hop : (c = 2 ∧ op = or) ∨ (c = 1 ∧ op = and)) (h : ps_me cd w k den) (h2 : ps_me cd (w + k) j den2) (hc : cd (w + k + j) = nI c) : ps_me cd w (k + j + 1) (fun f => op (den f) (den2 f)) := by
  refine ⟨fun i h1 h3 => ?_, fun f s => ?_, fun d => ?_⟩
  rotate_left 2
  · have hc2 : c = 1 ∨ c = 2 := by rcases hop with z | z <;> omega
    rw [show k + j + 1 = k + (j + 1) by omega, me_dep_add cd k (j + 1) w d _ (h.2.2 d), me_dep_add cd j 1 (w + k) (d + 1) _ (h2.2.2 (d + 1))]; unfold me_dep; rw [hc, nI_clamp (by omega), if_neg (by omega), if_neg (by omega), if_pos (by omega)]; rfl
  · by_cases e : i = w + k + j
    · rw [e]; exact ⟨c, by omega, hc⟩
    · by_cases g : i < w + k
      · exact h.1 i h1 g
      · exact h2.1 i (by omega) (by omega)
  · rw [me_ev_add, me_ev_add, h.2.1 f s, h2.2.1 f _]
    show me_st f (den2 (hs_N f) :: den (hs_N f) :: s) (cd (w + (k + j))).toNatClampNeg = _
    rw [show w + (k + j) = w + k + j by omega, hc, nI_clamp (by omega)]
    rcases hop with ⟨rfl, rfl⟩ | ⟨rfl, rfl⟩ <;> rfl
theorem me_st_len (f : Nat → Int32) (s : List Bool) (c : Nat) : (me_st f s c).length ≤ s.length + 1 := by
  unfold me_st
  split
  · simp
  · split
    · split <;> simp
    · split <;> simp
theorem me_ev_len (cd : Nat → Int32) (f : Nat → Int32) : ∀ (k : Nat) (s : List Bool) (i : Nat), (me_ev cd f s i k).length ≤ s.length + k
  | 0, s, i => Nat.le_refl _
  | k + 1, s, i => by
    have h1 := me_ev_len cd f k (me_st f s (cd i).toNatClampNeg) (i + 1)
    have h2 := me_st_len f s (cd i).toNatClampNeg
    show (me_ev cd f (me_st f s (cd i).toNatClampNeg) (i + 1) k).length ≤ _
    omega
