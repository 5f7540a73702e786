/-! what lies outside, by name -/
section EXT
variable {l : Launch} {E : hg_E} {d : Nat} {Y : hg_Y} {mc ms pc pc' : Nat} {loc : List (Option Value)} {st : List Value} {M : hg_M} {Q : Option Value → hg_M → Prop}
theorem hx_aboveZ {s : State} (h : hg_kn E s) : va_Z "HangmanDinner$Talk" "ABOVE" "[I" (.ref (hg_ex E 1)) (hg_A E) s s.heap := h.2.2.2.2.2.2.1
theorem hx_aboveT {s : State} (h : hg_kn E s) : va_T .int (hg_ex E 1) 7 (fun j => .int (hg_fA j)) (hg_A E) s s.heap := h.2.2.2.2.2.2.2.1
theorem hx_bodiesZ {s : State} (h : hg_kn E s) : va_Z "HangmanDinner$Talk" "BODIES" "[I" (.ref (hg_ex E 2)) (hg_A E) s s.heap := h.2.2.2.2.2.2.2.2.1
theorem hx_bodiesT {s : State} (h : hg_kn E s) : va_T .int (hg_ex E 2) 21 (fun j => .int (hg_fB j)) (hg_A E) s s.heap := h.2.2.2.2.2.2.2.2.2.1
theorem hx_compact {s : State} (h : hg_kn E s) : va_Z "java/lang/String" "COMPACT_STRINGS" "Z" (.int 1) (hg_A E) s s.heap := h.2.2.2.2.2.2.2.2.2.2.1
theorem hx_fmt {s : State} (h : hg_kn E s) : va_Zq "jdk/internal/util/Preconditions" "SIOOBE_FORMATTER" "Ljava/util/function/BiFunction;" (hg_A E) s s.heap := h.2.2.2.2.2.2.2.2.2.2.2.1
theorem hx_str {s : State} (h : hg_kn E s) : vk_S 5 hg_sn hg_sb (fun i => hg_ex E (10 + i)) (fun i => hg_ex E (20 + i)) (hg_A E) s s.heap := h.2.2.2.2.2.2.2.2.2.2.2.2
theorem hx_scr {s : State} (h : hg_kn E s) : va_T .int (hg_ex E 0) E.2.2.2.2.2.1 (fun j => .int (E.2.2.2.2.2.2 j)) (hg_A E) s s.heap := h.2.2.2.2.2.1
theorem hg_ialdT_n {t N j : Nat} {f : Nat → Int32} (hd : hg_D Y pc pc' 1 .iaload) (hT : ∀ s, hg_kn E s → va_T .int t N (fun j => .int (f j)) (hg_A E) s s.heap) (hj : j < N) (hN : N < 2 ^ 31) (kk : hg_WP l E d Y mc ms pc' loc (.int (f j) :: st) M Q) : hg_WP l E d Y mc ms pc loc (.int (nI j) :: .ref t :: st) M Q :=
  hg_ialdT hd hT (vp_in_nI hj hN) (by rw [nI_clamp (by omega)]; exact kk)
theorem hg_baldT_n {t N j : Nat} {f : Nat → Int32} (hd : hg_D Y pc pc' 1 .baload) (hT : ∀ s, hg_kn E s → va_T .byte t N (fun j => .int (f j)) (hg_A E) s s.heap) (hj : j < N) (hN : N < 2 ^ 31) (kk : hg_WP l E d Y mc ms pc' loc (.int (f j) :: st) M Q) : hg_WP l E d Y mc ms pc loc (.int (nI j) :: .ref t :: st) M Q :=
  hg_baldT hd hT (vp_in_nI hj hN) (by rw [nI_clamp (by omega)]; exact kk)
-- lists, tapes
abbrev hs_L : Type := Nat × (Nat → Int32) × (Nat → Int32)
def hs_LR (r : Nat) (a : hs_L) (I : Nat → Nat → Nat → Int32) : Prop := I 7 r 2 = nI a.1 ∧ (∀ j, j < a.1 → I 8 r j = a.2.1 j) ∧ ∀ j, j < a.1 → I 9 r j = a.2.2 j
def hs_up1 (f : Nat → Int32) (i : Nat) (x : Int32) : Nat → Int32 := fun j => if j = i then x else f j
def hs_Ladd (a : hs_L) (x y : Int32) : hs_L := (a.1 + 1, hs_up1 a.2.1 a.1 x, hs_up1 a.2.2 a.1 y)
/-- only the list r changed -/
def hg_fl (r : Nat) (I' I : Nat → Nat → Nat → Int32) : Prop := ∀ k q, ¬ ((k = 7 ∨ k = 8 ∨ k = 9) ∧ q = r) → I' k q = I k q
theorem hg_fl.rf {r : Nat} {I : Nat → Nat → Nat → Int32} : hg_fl r I I := fun _ _ _ => rfl
theorem hg_fl.u3 {r k j : Nat} {x : Int32} {I' I : Nat → Nat → Nat → Int32} (h : hg_fl r I' I) (hk : k = 7 ∨ k = 8 ∨ k = 9) : hg_fl r (hg_u3 I' k r j x) I := fun k' q hn => by
  rw [← h k' q hn]
  funext j'
  exact hg_u3k (fun z => hn (by rw [z.1, z.2]; exact ⟨hk, rfl⟩))
theorem hs_LR.fl {r r2 : Nat} {a : hs_L} {I' I : Nat → Nat → Nat → Int32} (h : hs_LR r2 a I) (hf : hg_fl r I' I) (hr : r2 ≠ r) : hs_LR r2 a I' := by
  unfold hs_LR at h ⊢
  rw [hf 7 r2 (by omega), hf 8 r2 (by omega), hf 9 r2 (by omega)]
  exact h
abbrev hs_P : Type := Int32 × Nat × (Nat → Int64)
def hs_PR (t : Nat) (a : hs_P) (I : Nat → Nat → Nat → Int32) (Lg : Nat → Nat → Nat → Int64) : Prop := I 16 t 0 = a.1 ∧ I 16 t 1 = nI a.2.1 ∧ ∀ j, j < 60 → Lg 17 t j = a.2.2 j
def hs_Pok (a : hs_P) : Prop := a.2.1 ≤ 60 ∧ ((a.1 = -1 ∧ a.2.1 = 0) ∨ ∃ k : Nat, k ≤ 4 ∧ a.1 = nI k)
end EXT
