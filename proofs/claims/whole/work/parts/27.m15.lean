/-! the words: String, as far as they need it -/
theorem f_JS_9 : Cond.fieldLink "java/lang/String" 9 "java/lang/String" "value" "[B" ∈ hg_T := hg_in 1200 (by decide +kernel) rfl
theorem f_JS_15 : Cond.fieldLink "java/lang/String" 15 "java/lang/String" "coder" "B" ∈ hg_T := hg_in 1201 (by decide +kernel) rfl
def hg_sz (t : Nat) : Nat := hg_sn.getD t 0
def hg_sc' (t j : Nat) : Int32 := (hg_sb.getD t []).getD j 0
theorem hg_sz_le : ∀ t, t < 5 → hg_sz t ≤ 6 := by decide
theorem hg_sc_ch : ∀ t, t < 5 → ∀ j, j < hg_sz t → ∃ c, c < 128 ∧ hg_sc' t j = nI c := by
  have h : ∀ t, t < 5 → ∀ j, j < hg_sz t → hg_sc' t j = nI (hg_sc' t j).toNatClampNeg ∧ (hg_sc' t j).toNatClampNeg < 128 := by decide +kernel
  exact fun t ht j hj => ⟨_, (h t ht j hj).2, (h t ht j hj).1⟩
section STR
variable {E : hg_E} {t : Nat}
theorem hx_sV (ht : t < 5) {s : State} (h : hg_kn E s) : va_OF "java/lang/String" "value" "[B" (.ref (hg_ex E (20 + t))) (hg_ex E (10 + t)) (hg_A E) s s.heap := ((hx_str h).1 t ht).2.2.1
theorem hx_sC (ht : t < 5) {s : State} (h : hg_kn E s) : va_OF "java/lang/String" "coder" "B" (.int 0) (hg_ex E (10 + t)) (hg_A E) s s.heap := ((hx_str h).1 t ht).2.1
theorem hx_sT (ht : t < 5) {s : State} (h : hg_kn E s) : va_T .byte (hg_ex E (20 + t)) (hg_sz t) (fun j => .int (hg_sc' t j)) (hg_A E) s s.heap := ((hx_str h).1 t ht).2.2.2
end STR
theorem nI_c16 : ∀ {c : Nat}, c < 128 → ((nI c &&& 255).toUInt32 % 65536).toInt32 = nI c := by
  have h : ∀ c, c < 128 → ((nI c &&& 255).toUInt32 % 65536).toInt32 = nI c := by decide +kernel
  exact fun {c} q => h c q
theorem nI_char : ∀ {c : Nat}, c < 128 → ((nI c).toUInt32 % 65536).toInt32 = nI c := by
  have h : ∀ c, c < 128 → ((nI c).toUInt32 % 65536).toInt32 = nI c := by decide +kernel
  exact fun {c} q => h c q
theorem nI_nch {c : Nat} (h : c < 128) : vp_nar .char (nI c) = nI c := by
  have h : ∀ c, c < 128 → vp_nar .char (nI c) = nI c := by decide +kernel
  exact h c ‹_›
/-- where c is first, from j on -/
def hg_fc (t : Nat) (c : Int32) : Nat → Nat → Int32
  | 0, _ => -1
  | k + 1, j => if hg_sc' t j = c then nI j else hg_fc t c k (j + 1)

section M15
variable {l : Launch} {E : hg_E} {d T : Nat}
variable {I : Nat → Nat → Nat → Int32} {Lg : Nat → Nat → Nat → Int64} {Rf : Nat → Nat → Nat → Option (Nat × Nat)} {X : Nat × (Nat → Nat) × (Nat → Nat → Nat)}
variable {t : Nat}
theorem m_JS_coder (ht : t < 5) : hg_MC l E (d + 1) Y_JS_coder 0 0 [.ref (hg_ex E (10 + t))] (I, Lg, Rf, X) (hg_i (fun v M' => v = 0 ∧ M' = (I, Lg, Rf, X))) := by
  refine hg_mc k_JS_coder (Nat.le_of_ble_eq_true rfl) ?_
  show hg_WP l E _ Y_JS_coder 0 0 0 [some (.ref (hg_ex E (10 + t)))] [] (I, Lg, Rf, X) _
  refine hg_gets d_JS_coder_0 s_JS_38 (fun s h => hx_compact h) ?_
  refine hg_if_eq (tgt := 13) d_JS_coder_3 (by decide) (fun h_1 => absurd h_1 (by decide)) (fun h_1 => ?_)
  refine hg_aload0 d_JS_coder_6 ?_
  refine hg_getS d_JS_coder_7 f_JS_15 (fun s h => hx_sC ht h) ?_
  refine hg_goto (tgt := 14) d_JS_coder_10 (by decide) ?_
  refine hg_ireturn d_JS_coder_14 rfl rfl ?_
  exact ⟨rfl, rfl⟩

theorem m_JS_isLatin1 (ht : t < 5) : hg_MC l E (d + 1) Y_JS_isLatin1 0 0 [.ref (hg_ex E (10 + t))] (I, Lg, Rf, X) (hg_i (fun v M' => v = 1 ∧ M' = (I, Lg, Rf, X))) := by
  refine hg_mc k_JS_isLatin1 (Nat.le_of_ble_eq_true rfl) ?_
  show hg_WP l E _ Y_JS_isLatin1 0 0 0 [some (.ref (hg_ex E (10 + t)))] [] (I, Lg, Rf, X) _
  refine hg_gets d_JS_isLatin1_0 s_JS_38 (fun s h => hx_compact h) ?_
  refine hg_if_eq (tgt := 17) d_JS_isLatin1_3 (by decide) (fun h_1 => absurd h_1 (by decide)) (fun h_1 => ?_)
  refine hg_aload0 d_JS_isLatin1_6 ?_
  refine hg_getS d_JS_isLatin1_7 f_JS_15 (fun s h => hx_sC ht h) ?_
  refine hg_if_ne (tgt := 17) d_JS_isLatin1_10 (by decide) (fun h_2 => absurd h_2 (by decide)) (fun h_2 => ?_)
  refine hg_iconst (v := 1) d_JS_isLatin1_13 (by decide) ?_
  refine hg_goto (tgt := 18) d_JS_isLatin1_14 (by decide) ?_
  refine hg_ireturn d_JS_isLatin1_18 rfl rfl ?_
  exact ⟨rfl, rfl⟩

theorem nI_sh0 (x : Int32) : x >>> ((0 : Int32) &&& 31) = x := by
  rw [show (0 : Int32) &&& 31 = 0 by decide]
  apply Int32.toInt_inj.mp
  rw [pk_shr x 0 0 (by decide)]; exact Int.shiftRight_zero _
theorem m_JS_length (ht : t < 5) : hg_MC l E (d + 2) Y_JS_length 0 0 [.ref (hg_ex E (10 + t))] (I, Lg, Rf, X) (hg_i (fun v M' => v = nI (hg_sz t) ∧ M' = (I, Lg, Rf, X))) := by
  have hsl := hg_sz_le t ht
  refine hg_mc k_JS_length (Nat.le_of_ble_eq_true rfl) ?_
  show hg_WP l E _ Y_JS_length 0 0 0 [some (.ref (hg_ex E (10 + t)))] [] (I, Lg, Rf, X) _
  refine hg_aload0 d_JS_length_0 ?_
  refine hg_getS d_JS_length_1 f_JS_9 (fun s h => hx_sV ht h) ?_
  refine hg_alenT d_JS_length_4 (fun s h => hx_sT ht h) ?_
  refine hg_aload0 d_JS_length_5 ?_
  refine hg_cQi d_JS_length_6 l_JS_335 ht rfl rfl (Nat.le_of_ble_eq_true rfl) (m_JS_coder ht) rfl ?_
  rintro _ _ ⟨rfl, rfl⟩
  refine hg_ishr d_JS_length_9 ?_
  refine hg_eq1 (y := nI (hg_sz t)) (nI_sh0 _) ?_
  refine hg_ireturn d_JS_length_10 rfl rfl ?_
  exact ⟨rfl, rfl⟩

theorem m_JP_checkIndexN {j n : Nat} (hj : j < n) (hn : n < 100) : hg_MC l E (d + 1) Y_JP_checkIndex 0 0 [.int (nI j), .int (nI n), .null] (I, Lg, Rf, X) (hg_i (fun v M' => v = nI j ∧ M' = (I, Lg, Rf, X))) := by
  refine hg_mc k_JP_checkIndex (Nat.le_of_ble_eq_true rfl) ?_
  show hg_WP l E _ Y_JP_checkIndex 0 0 0 [some (.int (nI j)), some (.int (nI n)), some (.null)] [] (I, Lg, Rf, X) _
  refine hg_iload0 d_JP_checkIndex_0 ?_
  refine hg_if_lt (tgt := 9) d_JP_checkIndex_1 (by decide) (fun h_1 => absurd h_1 (nI_pos (by omega))) (fun h_1 => ?_)
  refine hg_iload0 d_JP_checkIndex_4 ?_
  refine hg_iload1 d_JP_checkIndex_5 ?_
  refine hg_icmp_lt (tgt := 16) d_JP_checkIndex_6 (by decide) (fun h_2 => ?_) (fun h_2 => absurd ((nI_ltI (by omega) (by omega)).mpr hj) h_2)
  refine hg_iload0 d_JP_checkIndex_16 ?_
  refine hg_ireturn d_JP_checkIndex_17 rfl rfl ?_
  exact ⟨rfl, rfl⟩

theorem m_JP_checkIndexR {a : Nat} {j n : Nat} (hj : j < n) (hn : n < 100) : hg_MC l E (d + 1) Y_JP_checkIndex 0 0 [.int (nI j), .int (nI n), .ref a] (I, Lg, Rf, X) (hg_i (fun v M' => v = nI j ∧ M' = (I, Lg, Rf, X))) := by
  refine hg_mc k_JP_checkIndex (Nat.le_of_ble_eq_true rfl) ?_
  show hg_WP l E _ Y_JP_checkIndex 0 0 0 [some (.int (nI j)), some (.int (nI n)), some (.ref a)] [] (I, Lg, Rf, X) _
  refine hg_iload0 d_JP_checkIndex_0 ?_
  refine hg_if_lt (tgt := 9) d_JP_checkIndex_1 (by decide) (fun h_1 => absurd h_1 (nI_pos (by omega))) (fun h_1 => ?_)
  refine hg_iload0 d_JP_checkIndex_4 ?_
  refine hg_iload1 d_JP_checkIndex_5 ?_
  refine hg_icmp_lt (tgt := 16) d_JP_checkIndex_6 (by decide) (fun h_2 => ?_) (fun h_2 => absurd ((nI_ltI (by omega) (by omega)).mpr hj) h_2)
  refine hg_iload0 d_JP_checkIndex_16 ?_
  refine hg_ireturn d_JP_checkIndex_17 rfl rfl ?_
  exact ⟨rfl, rfl⟩

theorem m_JP_checkIndex {v : Value} (hv : v = .null ∨ ∃ a, v = .ref a) {j n : Nat} (hj : j < n) (hn : n < 100) : hg_MC l E (d + 1) Y_JP_checkIndex 0 0 [.int (nI j), .int (nI n), v] (I, Lg, Rf, X) (hg_i (fun v M' => v = nI j ∧ M' = (I, Lg, Rf, X))) := by
  rcases hv with rfl | ⟨a, rfl⟩
  · exact m_JP_checkIndexN hj hn
  · exact m_JP_checkIndexR hj hn
theorem m_JS_checkIndex {j n : Nat} (hj : j < n) (hn : n < 100) : hg_MC l E (d + 2) Y_JS_checkIndex 0 0 [.int (nI j), .int (nI n)] (I, Lg, Rf, X) (hg_v (fun M' => M' = (I, Lg, Rf, X))) := by
  refine hg_mc k_JS_checkIndex (Nat.le_of_ble_eq_true rfl) ?_
  show hg_WP l E _ Y_JS_checkIndex 0 0 0 [some (.int (nI j)), some (.int (nI n))] [] (I, Lg, Rf, X) _
  refine hg_iload0 d_JS_checkIndex_0 ?_
  refine hg_iload1 d_JS_checkIndex_1 ?_
  refine hg_getsq d_JS_checkIndex_2 s_JS_1053 (fun s h => hx_fmt h) (fun vq_1 hvq_1 => ?_)
  refine hg_cSi d_JS_checkIndex_5 l_JS_1059 rfl (Nat.le_of_ble_eq_true rfl) (m_JP_checkIndex hvq_1 hj hn) rfl ?_
  rintro _ _ ⟨rfl, rfl⟩
  refine hg_pop d_JS_checkIndex_8 rfl ?_
  refine hg_return d_JS_checkIndex_9 rfl ?_
  exact rfl

theorem m_JL_charAt {j : Nat} (ht : t < 5) (hj : j < hg_sz t) : hg_MC l E (d + 3) Y_JL_charAt 0 0 [.ref (hg_ex E (20 + t)), .int (nI j)] (I, Lg, Rf, X) (hg_i (fun v M' => v = hg_sc' t j ∧ M' = (I, Lg, Rf, X))) := by
  have hsl := hg_sz_le t ht
  obtain ⟨c, hc, ec⟩ := hg_sc_ch t ht j hj
  rw [ec]
  refine hg_mc k_JL_charAt (Nat.le_of_ble_eq_true rfl) ?_
  show hg_WP l E _ Y_JL_charAt 0 0 0 [some (.ref (hg_ex E (20 + t))), some (.int (nI j))] [] (I, Lg, Rf, X) _
  refine hg_iload1 d_JL_charAt_0 ?_
  refine hg_aload0 d_JL_charAt_1 ?_
  refine hg_alenT d_JL_charAt_2 (fun s h => hx_sT ht h) ?_
  refine hg_cSv d_JL_charAt_3 l_JL_9 rfl (Nat.le_of_ble_eq_true rfl) (m_JS_checkIndex hj (by omega)) rfl ?_
  rintro _ rfl
  refine hg_aload0 d_JL_charAt_6 ?_
  refine hg_iload1 d_JL_charAt_7 ?_
  refine hg_baldT_n (j := j) d_JL_charAt_8 (fun s h => hx_sT ht h) (by omega) (by omega) ?_
  refine hg_eq1 (y := nI c) (ec) ?_
  refine hg_sipush (v := 255) d_JL_charAt_9 (by decide) ?_
  refine hg_iand d_JL_charAt_12 ?_
  refine hg_i2c d_JL_charAt_13 ?_
  refine hg_eq1 (y := nI c) (nI_c16 hc) ?_
  refine hg_ireturn d_JL_charAt_14 rfl (pk_charN (by omega)).1 ?_
  exact ⟨rfl, rfl⟩

theorem m_JS_charAt {j : Nat} (ht : t < 5) (hj : j < hg_sz t) : hg_MC l E (d + 4) Y_JS_charAt 0 0 [.ref (hg_ex E (10 + t)), .int (nI j)] (I, Lg, Rf, X) (hg_i (fun v M' => v = hg_sc' t j ∧ M' = (I, Lg, Rf, X))) := by
  have hsl := hg_sz_le t ht
  obtain ⟨c, hc, ec⟩ := hg_sc_ch t ht j hj
  refine hg_mc k_JS_charAt (Nat.le_of_ble_eq_true rfl) ?_
  show hg_WP l E _ Y_JS_charAt 0 0 0 [some (.ref (hg_ex E (10 + t))), some (.int (nI j))] [] (I, Lg, Rf, X) _
  refine hg_aload0 d_JS_charAt_0 ?_
  refine hg_cQi d_JS_charAt_1 l_JS_492 ht rfl rfl (Nat.le_of_ble_eq_true rfl) (m_JS_isLatin1 ht) rfl ?_
  rintro _ _ ⟨rfl, rfl⟩
  refine hg_if_eq (tgt := 16) d_JS_charAt_4 (by decide) (fun h_1 => absurd h_1 (by decide)) (fun h_1 => ?_)
  refine hg_aload0 d_JS_charAt_7 ?_
  refine hg_getS d_JS_charAt_8 f_JS_9 (fun s h => hx_sV ht h) ?_
  refine hg_iload1 d_JS_charAt_11 ?_
  refine hg_cSi d_JS_charAt_12 l_JS_495 rfl (Nat.le_of_ble_eq_true rfl) (m_JL_charAt ht hj) rfl ?_
  rintro _ _ ⟨rfl, rfl⟩
  refine hg_ireturn d_JS_charAt_15 rfl (by rw [ec]; exact (pk_charN (by omega)).1) ?_
  exact ⟨rfl, rfl⟩

theorem m_JL_canEncode {c : Nat} (hc : c < 128) : hg_MC l E (d + 1) Y_JL_canEncode 0 0 [.int (nI c)] (I, Lg, Rf, X) (hg_i (fun v M' => v = 1 ∧ M' = (I, Lg, Rf, X))) := by
  refine hg_mc k_JL_canEncode (Nat.le_of_ble_eq_true rfl) ?_
  show hg_WP l E _ Y_JL_canEncode 0 0 0 [some (.int (nI c))] [] (I, Lg, Rf, X) _
  refine hg_iload0 d_JL_canEncode_0 ?_
  refine hg_if_lt (tgt := 15) d_JL_canEncode_1 (by decide) (fun h_1 => absurd h_1 (nI_pos (by omega))) (fun h_1 => ?_)
  refine hg_iload0 d_JL_canEncode_4 ?_
  refine hg_sipush (v := 255) d_JL_canEncode_5 (by decide) ?_
  refine hg_icmp_gt (tgt := 15) d_JL_canEncode_8 (by decide) (fun h_2 => absurd h_2 (fun z => by rw [show (255 : Int32) = nI 255 from rfl, nI_ltI (by decide) (by omega)] at z; omega)) (fun h_2 => ?_)
  refine hg_iconst (v := 1) d_JL_canEncode_11 (by decide) ?_
  refine hg_goto (tgt := 16) d_JL_canEncode_12 (by decide) ?_
  refine hg_ireturn d_JL_canEncode_16 rfl (by decide) ?_
  exact ⟨rfl, rfl⟩

theorem m_JL_indexOfChar_loop {c : Nat} (ht : t < 5) (hc : c < 128) : ∀ (r j : Nat), j + r = hg_sz t → hg_fc t (nI c) (hg_sz t) 0 = hg_fc t (nI c) r j → hg_WP l E (d) Y_JL_indexOfChar 0 0 7 [some (.ref (hg_ex E (20 + t))), some (.int (nI c)), some (.int 0), some (.int (nI (hg_sz t))), some (.int (nI c)), some (.int (nI j))] [] (I, Lg, Rf, X) (hg_i (fun v M' => v = hg_fc t (nI c) (hg_sz t) 0 ∧ M' = (I, Lg, Rf, X))) := by
  have hsl := hg_sz_le t ht
  intro r
  induction r with
  | zero =>
    intro j hjr hq
    obtain rfl : j = hg_sz t := by omega
    refine hg_iload5 d_JL_indexOfChar_7 ?_
    refine hg_iload3 d_JL_indexOfChar_9 ?_
    refine hg_icmp_ge (tgt := 31) d_JL_indexOfChar_10 (by decide) (fun h_1 => ?_) (fun h_1 => absurd (Int32.le_refl _) h_1)
    refine hg_iconst (v := (-1)) d_JL_indexOfChar_31 (by decide) ?_
    refine hg_ireturn d_JL_indexOfChar_32 rfl rfl ?_
    exact ⟨hq.symm, rfl⟩
  | succ r ih =>
    intro j hjr hq
    refine hg_iload5 d_JL_indexOfChar_7 ?_
    refine hg_iload3 d_JL_indexOfChar_9 ?_
    refine hg_icmp_ge (tgt := 31) d_JL_indexOfChar_10 (by decide) (fun h_2 => absurd h_2 (nI_ge (by omega) (by omega))) (fun h_2 => ?_)
    refine hg_aload0 d_JL_indexOfChar_13 ?_
    refine hg_iload5 d_JL_indexOfChar_14 ?_
    refine hg_baldT_n (j := j) d_JL_indexOfChar_16 (fun s h => hx_sT ht h) (by omega) (by omega) ?_
    refine hg_iload4 d_JL_indexOfChar_17 ?_
    refine hg_icmp_ne (tgt := 25) d_JL_indexOfChar_19 (by decide) (fun heq => ?_) (fun heq => ?_)
    · refine hg_iinc5 (v := nI (j + 1)) d_JL_indexOfChar_25 rfl (nI_add _ _) ?_
      refine hg_goto (tgt := 7) d_JL_indexOfChar_28 (by decide) ?_
      exact ih (j + 1) (by omega) (hq.trans (if_neg heq))
    · replace heq := Decidable.not_not.mp heq
      refine hg_iload5 d_JL_indexOfChar_22 ?_
      refine hg_ireturn d_JL_indexOfChar_24 rfl rfl ?_
      refine ⟨?_, rfl⟩
      rw [hq]; exact (if_pos heq).symm
theorem m_JL_indexOfChar {c : Nat} (ht : t < 5) (hc : c < 128) : hg_MC l E (d + 1) Y_JL_indexOfChar 0 0 [.ref (hg_ex E (20 + t)), .int (nI c), .int 0, .int (nI (hg_sz t))] (I, Lg, Rf, X) (hg_i (fun v M' => v = hg_fc t (nI c) (hg_sz t) 0 ∧ M' = (I, Lg, Rf, X))) := by
  refine hg_mc k_JL_indexOfChar (Nat.le_of_ble_eq_true rfl) ?_
  show hg_WP l E _ Y_JL_indexOfChar 0 0 0 [some (.ref (hg_ex E (20 + t))), some (.int (nI c)), some (.int 0), some (.int (nI (hg_sz t))), none, none] [] (I, Lg, Rf, X) _
  refine hg_iload1 d_JL_indexOfChar_0 ?_
  refine hg_i2b d_JL_indexOfChar_1 ?_
  refine hg_eq1 (y := nI c) (nI_byte hc) ?_
  refine hg_istore4 d_JL_indexOfChar_2 rfl ?_
  refine hg_iload2 d_JL_indexOfChar_4 ?_
  refine hg_istore5 d_JL_indexOfChar_5 rfl ?_
  exact m_JL_indexOfChar_loop ht hc _ 0 (Nat.zero_add _) rfl

theorem hg_sz_pos : ∀ t, t < 5 → 0 < hg_sz t := by decide
theorem m_JL_indexOf {c : Nat} (ht : t < 5) (hc : c < 128) : hg_MC l E (d + 2) Y_JL_indexOf 0 0 [.ref (hg_ex E (20 + t)), .int (nI c), .int 0, .int (nI (hg_sz t))] (I, Lg, Rf, X) (hg_i (fun v M' => v = hg_fc t (nI c) (hg_sz t) 0 ∧ M' = (I, Lg, Rf, X))) := by
  have hsl := hg_sz_le t ht
  have hsp := hg_sz_pos t ht
  refine hg_mc k_JL_indexOf (Nat.le_of_ble_eq_true rfl) ?_
  show hg_WP l E _ Y_JL_indexOf 0 0 0 [some (.ref (hg_ex E (20 + t))), some (.int (nI c)), some (.int 0), some (.int (nI (hg_sz t)))] [] (I, Lg, Rf, X) _
  refine hg_iload1 d_JL_indexOf_0 ?_
  refine hg_cSi d_JL_indexOf_1 l_JL_88 rfl (Nat.le_of_ble_eq_true rfl) (m_JL_canEncode hc) rfl ?_
  rintro _ _ ⟨rfl, rfl⟩
  refine hg_if_ne (tgt := 9) d_JL_indexOf_4 (by decide) (fun h_1 => ?_) (fun h_1 => absurd (by decide) h_1)
  refine hg_iload2 d_JL_indexOf_9 ?_
  refine hg_iconst (v := 0) d_JL_indexOf_10 (by decide) ?_
  refine hg_max d_JL_indexOf_11 l_JL_92 (Nat.le_of_ble_eq_true rfl) ?_
  refine hg_eq1 (y := 0) (by decide) ?_
  refine hg_istore2 d_JL_indexOf_14 rfl ?_
  refine hg_iload3 d_JL_indexOf_15 ?_
  refine hg_aload0 d_JL_indexOf_16 ?_
  refine hg_alenT d_JL_indexOf_17 (fun s h => hx_sT ht h) ?_
  refine hg_min d_JL_indexOf_18 l_JL_38 (Nat.le_of_ble_eq_true rfl) ?_
  refine hg_eq1 (y := nI (hg_sz t)) (if_neg Int32.lt_irrefl) ?_
  refine hg_istore3 d_JL_indexOf_21 rfl ?_
  refine hg_iload2 d_JL_indexOf_22 ?_
  refine hg_iload3 d_JL_indexOf_23 ?_
  refine hg_icmp_lt (tgt := 29) d_JL_indexOf_24 (by decide) (fun h_2 => ?_) (fun h_2 => absurd ((nI_ltI (a := 0) (by decide) (by omega)).mpr hsp) h_2)
  refine hg_aload0 d_JL_indexOf_29 ?_
  refine hg_iload1 d_JL_indexOf_30 ?_
  refine hg_iload2 d_JL_indexOf_31 ?_
  refine hg_iload3 d_JL_indexOf_32 ?_
  refine hg_cSi d_JL_indexOf_33 l_JL_95 rfl (Nat.le_of_ble_eq_true rfl) (m_JL_indexOfChar ht hc) rfl ?_
  rintro _ _ ⟨rfl, rfl⟩
  refine hg_ireturn d_JL_indexOf_36 rfl rfl ?_
  exact ⟨rfl, rfl⟩

theorem m_JS_indexOf_1 {c : Nat} (ht : t < 5) (hc : c < 128) : hg_MC l E (d + 3) Y_JS_indexOf_1 0 0 [.ref (hg_ex E (10 + t)), .int (nI c), .int 0] (I, Lg, Rf, X) (hg_i (fun v M' => v = hg_fc t (nI c) (hg_sz t) 0 ∧ M' = (I, Lg, Rf, X))) := by
  have hsl := hg_sz_le t ht
  refine hg_mc k_JS_indexOf_1 (Nat.le_of_ble_eq_true rfl) ?_
  show hg_WP l E _ Y_JS_indexOf_1 0 0 0 [some (.ref (hg_ex E (10 + t))), some (.int (nI c)), some (.int 0)] [] (I, Lg, Rf, X) _
  refine hg_aload0 d_JS_indexOf_1_0 ?_
  refine hg_cQi d_JS_indexOf_1_1 l_JS_492 ht rfl rfl (Nat.le_of_ble_eq_true rfl) (m_JS_isLatin1 ht) rfl ?_
  rintro _ _ ⟨rfl, rfl⟩
  refine hg_if_eq (tgt := 23) d_JS_indexOf_1_4 (by decide) (fun h_1 => absurd h_1 (by decide)) (fun h_1 => ?_)
  refine hg_aload0 d_JS_indexOf_1_7 ?_
  refine hg_getS d_JS_indexOf_1_8 f_JS_9 (fun s h => hx_sV ht h) ?_
  refine hg_iload1 d_JS_indexOf_1_11 ?_
  refine hg_iload2 d_JS_indexOf_1_12 ?_
  refine hg_aload0 d_JS_indexOf_1_13 ?_
  refine hg_cQi d_JS_indexOf_1_14 l_JS_505 ht rfl rfl (Nat.le_of_ble_eq_true rfl) (m_JS_length ht) rfl ?_
  rintro _ _ ⟨rfl, rfl⟩
  refine hg_cSi d_JS_indexOf_1_17 l_JS_637 rfl (Nat.le_of_ble_eq_true rfl) (m_JL_indexOf ht hc) rfl ?_
  rintro _ _ ⟨rfl, rfl⟩
  refine hg_goto (tgt := 36) d_JS_indexOf_1_20 (by decide) ?_
  refine hg_ireturn d_JS_indexOf_1_36 rfl rfl ?_
  exact ⟨rfl, rfl⟩

theorem m_JS_indexOf {c : Nat} (ht : t < 5) (hc : c < 128) : hg_MC l E (d + 4) Y_JS_indexOf_0 0 0 [.ref (hg_ex E (10 + t)), .int (nI c)] (I, Lg, Rf, X) (hg_i (fun v M' => v = hg_fc t (nI c) (hg_sz t) 0 ∧ M' = (I, Lg, Rf, X))) := by
  have hsl := hg_sz_le t ht
  refine hg_mc k_JS_indexOf_0 (Nat.le_of_ble_eq_true rfl) ?_
  show hg_WP l E _ Y_JS_indexOf_0 0 0 0 [some (.ref (hg_ex E (10 + t))), some (.int (nI c))] [] (I, Lg, Rf, X) _
  refine hg_aload0 d_JS_indexOf_0_0 ?_
  refine hg_iload1 d_JS_indexOf_0_1 ?_
  refine hg_iconst (v := 0) d_JS_indexOf_0_2 (by decide) ?_
  refine hg_cQi d_JS_indexOf_0_3 l_JS_633 ht rfl rfl (Nat.le_of_ble_eq_true rfl) (m_JS_indexOf_1 ht hc) rfl ?_
  rintro _ _ ⟨rfl, rfl⟩
  refine hg_ireturn d_JS_indexOf_0_6 rfl rfl ?_
  exact ⟨rfl, rfl⟩

end M15
