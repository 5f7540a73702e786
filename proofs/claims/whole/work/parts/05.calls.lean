/-! calls; a method's start and its ends -/
section HG3
variable {l : Launch} {E : hg_E} {d : Nat} {Y : hg_Y} {mc ms pc pc' : Nat} {loc : List (Option Value)} {st : List Value} {M : hg_M} {Q : Option Value → hg_M → Prop}
theorem hg_goodw {Z : hg_Y} {n : Nat} (h : hg_YK Z n) : GoodIn hg_T (hg_yw Z :: hg_T) := fun w hw => by
  rcases List.mem_cons.mp hw with rfl | hw
  · exact hg_good _ h.1
  · exact hg_good w hw
theorem hg_blind {as : List Value} : FrameBlind (va_Pc as (fun U => hg_rep E M U.heap ∧ hg_kn E U ∧ hg_z E ≤ U.heap.size)) := fun a U g mk h => ⟨h.1, h.2.1, h.2.2.1.blind, h.2.2.2⟩
/-- behind a call -/
theorem hg_back {p : Program} {e : Env} {R : Room} {s : State} {m : MethodId} {args : Array Value} {below : List Frame} {meth : Method} {c : Code} {H : Heap} {locs : List Loc} {cells slots : Nat} {Z : State → Prop} {ls : Array Slot} {mc' ms' : Nat} {rest : List Value} {a : Array Value} {Q' : Option Value → hg_M → Prop} (hF : hg_fix p Y s m args meth c) (hK : hg_kn E s) (hR : d + 1 ≤ R.frames ∧ 40 * (d + 1) ≤ R.locals ∧ cells + mc ≤ R.cells ∧ slots + ms ≤ R.slots) (hS : va_S (hg_A E) s.heap H locs) (hL : hg_lok ls Y.2.2.1 loc) (hz : hg_z E ≤ s.heap.size)
    (hret : ∀ (pc : Nat) (ls : Array Slot) (H : Heap) (locs : List Loc) (cells' slots' : Nat) (r : Option Value) (M' : hg_M), Q r M' → hg_ret Y pc r → hg_rep E M' H → va_S (hg_A E) s.heap H locs → cells' ≤ cells + mc → slots' ≤ slots + ms → W p l e R s m args below meth c H locs cells' slots' Z (F0 m pc ls r.toList))
    (hb : mc' ≤ mc ∧ ms' ≤ ms) (kk : ∀ (r : Option Value) (M' : hg_M), Q' r M' → hg_WP l E d Y (mc - mc') (ms - ms') (pc + 3) loc (r.toList ++ rest) M' Q)
    (hr : va_Run p l e R s m args below meth c H locs cells slots mc' ms' (F0 m pc ls st) rest (hg_Q E Q' a) (hg_A E)) : W p l e R s m args below meth c H locs cells slots Z (F0 m pc ls st) := by
  intro T hT X
  obtain ⟨v, st₀, t, T', L, h0, X', hLf, e1, e2, ⟨⟨r, M', hv, hq, hrep⟩, hfz, hfk⟩, stp⟩ := hr T hT X
  cases hv
  rw [h0] at hfz hfk
  have hS' : va_S (hg_A E) s.heap T'.heap (locs ++ L) := ⟨Nat.le_trans hS.1 (by rw [e1]; exact hfz), fun q h1 h2 => by rw [e1, hfk q (Nat.lt_of_lt_of_le h1 hS.1) h2]; exact hS.2.1 q h1 h2, fun q hq => by
      rcases List.mem_append.mp hq with h | h
      · exact hS.2.2 q h
      · exact hLf q h⟩
  obtain ⟨t2, a1, b1⟩ := kk v M' hq p e R s m args below meth c T'.heap (locs ++ L) (cells + mc') (slots + ms') Z ls hF hK ⟨hR.1, hR.2.1, by omega, by omega⟩ (by rw [e1]; exact hrep) hS' hL hz (fun pc ls H locs c' s' r M' h1 h2 h3 h4 h5 h6 => hret pc ls H locs c' s' r M' h1 h2 h3 h4 (by omega) (by omega)) T' rfl X'
  exact ⟨t2, stp t2 a1, b1⟩
theorem hg_room {R : Room} {mc ms mL : Nat} (hR : d + 1 ≤ R.frames ∧ 40 * (d + 1) ≤ R.locals) (h : mL ≤ 21) : ({ frames := d, cells := mc, slots := ms, locals := 40 * d } : Room).frames + 1 ≤ R.frames ∧ 8 + (mL + 11) + ({ frames := d, cells := mc, slots := ms, locals := 40 * d } : Room).locals ≤ R.locals := by
  refine ⟨hR.1, ?_⟩
  show 8 + (mL + 11) + 40 * d ≤ R.locals
  omega
theorem hg_callV {Z : hg_Y} {idx n k i ci mc' ms' : Nat} {As rest : List Value} {Q' : Option Value → hg_M → Prop} (hd : hg_D Y pc pc' 3 (.invokevirtual idx)) (hl : hg_LV Y.1.cls idx Z n) (hk : hg_cl k = some ci) (hci : hg_C ci = Z.1.cls) (hi : i < hg_ct M k) (hn : As.length = n) (hw : (rest.map fun v => v.category).sum ≤ 8) (hb : mc' ≤ mc ∧ ms' ≤ ms) (hm : hg_MC l E d Z mc' ms' (.ref (hg_ad E k i) :: As) M Q') (hst : st = As.reverse ++ .ref (hg_ad E k i) :: rest) (kk : ∀ (r : Option Value) (M' : hg_M), Q' r M' → hg_WP l E d Y (mc - mc') (ms - ms') pc' loc (r.toList ++ rest) M' Q) : hg_WP l E d Y mc ms pc loc st M Q := by
  intro p e R s m args below meth c H locs cells slots Zs ls hF hK hR hP hS hL hz hret
  obtain ⟨hd, rfl⟩ := hd
  obtain ⟨-, lv, hl1, -⟩ := id hL
  obtain ⟨hyk, h1, h2, h3⟩ := hl
  have hc9 := hg_cl9 _ _ hk
  obtain ⟨cellB, g1, g2, g3, -⟩ := hP.obj hk hi
  have hcls := (hK.1.1 ci _ (hg_cls_at hc9)).2.1
  refine hg_back hF hK hR hS hL hz hret hb kk (va_runV (C := Z.1.cls) (As := As) (rest := rest) (Ts := hg_T) (own := Y.1.cls) ⟨hF.1, hF.2.1, hF.2.2.1, hF.2.2.2.1, hF.2.2.2.2.1⟩ hm ⟨callB_of n hF.2.2.2.2.1 (hg_goodw hyk) rfl rfl rfl (hF.ts hyk.2.1) (hF.ts h1) hyk.2.2.1 (hg_room ⟨hR.1, hR.2.1⟩ hyk.2.2.2.1), hF.ts h2, hF.ts h3⟩ ⟨hg_blind, ⟨cellB, g1, by rw [g3]; rfl, by rw [g2, ← hci]; exact hcls⟩, fun U hU hW => ⟨rfl, by rw [hU]; exact hP, hK.to hS hU hW, by rw [hU]; exact Nat.le_trans hz hS.1⟩⟩ rfl hn hl1.1 hst (lv_room hw) hd ⟨by omega, by omega⟩)
theorem hg_callS {Z : hg_Y} {idx n mc' ms' : Nat} {As rest : List Value} {Q' : Option Value → hg_M → Prop} (hd : hg_D Y pc pc' 3 (.invokestatic idx)) (hl : hg_LS Y.1.cls idx Z n) (hn : As.length = n) (hw : (rest.map fun v => v.category).sum ≤ 8) (hb : mc' ≤ mc ∧ ms' ≤ ms) (hm : hg_MC l E d Z mc' ms' As M Q') (hst : st = As.reverse ++ rest) (kk : ∀ (r : Option Value) (M' : hg_M), Q' r M' → hg_WP l E d Y (mc - mc') (ms - ms') pc' loc (r.toList ++ rest) M' Q) : hg_WP l E d Y mc ms pc loc st M Q := by
  intro p e R s m args below meth c H locs cells slots Zs ls hF hK hR hP hS hL hz hret
  obtain ⟨hd, rfl⟩ := hd
  obtain ⟨-, lv, hl1, -⟩ := id hL
  obtain ⟨hyk, h1, h2⟩ := hl
  refine hg_back hF hK hR hS hL hz hret hb kk (va_runS (As := As) (rest := rest) (Ts := hg_T) (own := Y.1.cls) ⟨hF.1, hF.2.1, hF.2.2.1, hF.2.2.2.1, hF.2.2.2.2.1⟩ hm ⟨callB_of n hF.2.2.2.2.1 (hg_goodw hyk) rfl rfl rfl (hF.ts hyk.2.1) (hF.ts h1) hyk.2.2.1 (hg_room ⟨hR.1, hR.2.1⟩ hyk.2.2.2.1), hF.ts h2⟩ ⟨hg_blind, fun U hU hW => ⟨rfl, by rw [hU]; exact hP, hK.to hS hU hW, by rw [hU]; exact Nat.le_trans hz hS.1⟩⟩ rfl hn hl1.1 hst (lv_room hw) hd ⟨by omega, by omega⟩)
theorem hg_callI {Z : hg_Y} {idx n b mc' ms' : Nat} {As rest : List Value} {Q' : Option Value → hg_M → Prop} (hd : hg_D Y pc pc' 3 (.invokespecial idx)) (hl : hg_LI Y.1.cls idx Z n) (hn : As.length = n) (hw : (rest.map fun v => v.category).sum ≤ 8) (hb : mc' ≤ mc ∧ ms' ≤ ms) (hm : hg_MC l E d Z mc' ms' (.ref b :: As) M Q') (hst : st = As.reverse ++ .ref b :: rest) (kk : ∀ (r : Option Value) (M' : hg_M), Q' r M' → hg_WP l E d Y (mc - mc') (ms - ms') pc' loc (r.toList ++ rest) M' Q) : hg_WP l E d Y mc ms pc loc st M Q := by
  intro p e R s m args below meth c H locs cells slots Zs ls hF hK hR hP hS hL hz hret
  obtain ⟨hd, rfl⟩ := hd
  obtain ⟨-, lv, hl1, -⟩ := id hL
  obtain ⟨hyk, h1, h2, h3, h4⟩ := hl
  have hcb := callB_of (own := Y.1.cls) (index := idx) (y := Z.1) (bytes := Z.2.1) (maxL := Z.2.2.1) (ret := Z.2.2.2) (rm := ({ frames := d, cells := mc', slots := ms', locals := 40 * d } : Room)) (R := R) n hF.2.2.2.2.1 (hg_goodw hyk) rfl rfl rfl (hF.ts hyk.2.1) (hF.ts h1) hyk.2.2.1 (hg_room ⟨hR.1, hR.2.1⟩ hyk.2.2.2.1)
  rw [h4] at hcb
  refine hg_back hF hK hR hS hL hz hret hb kk (va_runI (b := b) (As := As) (rest := rest) (Ts := hg_T) (own := Y.1.cls) ⟨hF.1, hF.2.1, hF.2.2.1, hF.2.2.2.1, hF.2.2.2.2.1⟩ hm ⟨hcb, h3, hF.ts h2⟩ ⟨hg_blind, fun U hU hW => ⟨rfl, by rw [hU]; exact hP, hK.to hS hU hW, by rw [hU]; exact Nat.le_trans hz hS.1⟩⟩ rfl hn hl1.1 hst (lv_room hw) hd ⟨by omega, by omega⟩)
theorem hg_callN {Z : hg_Y} {idx n b mc' ms' : Nat} {host : String} {As rest : List Value} {Q' : Option Value → hg_M → Prop} (hd : hg_D Y pc pc' 3 (.invokespecial idx)) (hyk : hg_YK Z n) (hnl : (Y.1.cls, idx, Z.1, host) ∈ hg_nl) (h2 : Cond.instanceMethod Z.1 ∈ hg_T) (h3 : Z.1.name = "<init>") (h4 : Z.2.2.2 = none) (hn : As.length = n) (hw : (rest.map fun v => v.category).sum ≤ 8) (hb : mc' ≤ mc ∧ ms' ≤ ms) (hm : hg_MC l E d Z mc' ms' (.ref b :: As) M Q') (hst : st = As.reverse ++ .ref b :: rest) (kk : ∀ (r : Option Value) (M' : hg_M), Q' r M' → hg_WP l E d Y (mc - mc') (ms - ms') pc' loc (r.toList ++ rest) M' Q) : hg_WP l E d Y mc ms pc loc st M Q := by
  intro p e R s m args below meth c H locs cells slots Zs ls hF hK hR hP hS hL hz hret
  obtain ⟨hd, rfl⟩ := hd
  obtain ⟨-, lv, hl1, -⟩ := id hL
  have hcb := va_cnB (own := Y.1.cls) (host := host) (index := idx) (y := Z.1) (bytes := Z.2.1) (maxL := Z.2.2.1) (ret := Z.2.2.2) (rm := ({ frames := d, cells := mc', slots := ms', locals := 40 * d } : Room)) (R := R) n hF.2.2.2.2.1 (hg_goodw hyk) rfl rfl rfl (hK.2.2.2.1 _ hnl) (hF.ts hyk.2.1) hyk.2.2.1 (hg_room ⟨hR.1, hR.2.1⟩ hyk.2.2.2.1)
  rw [h4] at hcb
  refine hg_back hF hK hR hS hL hz hret hb kk (va_runIN (b := b) (As := As) (rest := rest) (Ts := hg_T) (own := Y.1.cls) ⟨hF.1, hF.2.1, hF.2.2.1, hF.2.2.2.1, hF.2.2.2.2.1⟩ hm ⟨hcb, h3, hF.ts h2⟩ ⟨hg_blind, fun U hU hW => ⟨rfl, by rw [hU]; exact hP, hK.to hS hU hW, by rw [hU]; exact Nat.le_trans hz hS.1⟩⟩ rfl hn hl1.1 hst (lv_room hw) hd ⟨by omega, by omega⟩)
/-- a String's own method: the receiver is a constant -/
theorem hg_callQ {Z : hg_Y} {idx n t mc' ms' : Nat} {As rest : List Value} {Q' : Option Value → hg_M → Prop} (hd : hg_D Y pc pc' 3 (.invokevirtual idx)) (hl : hg_LV Y.1.cls idx Z n) (ht : t < 5) (hci : Z.1.cls = "java/lang/String") (hn : As.length = n) (hw : (rest.map fun v => v.category).sum ≤ 8) (hb : mc' ≤ mc ∧ ms' ≤ ms) (hm : hg_MC l E d Z mc' ms' (.ref (hg_ex E (10 + t)) :: As) M Q') (hst : st = As.reverse ++ .ref (hg_ex E (10 + t)) :: rest) (kk : ∀ (r : Option Value) (M' : hg_M), Q' r M' → hg_WP l E d Y (mc - mc') (ms - ms') pc' loc (r.toList ++ rest) M' Q) : hg_WP l E d Y mc ms pc loc st M Q := by
  intro p e R s m args below meth c H locs cells slots Zs ls hF hK hR hP hS hL hz hret
  obtain ⟨hd, rfl⟩ := hd
  obtain ⟨-, lv, hl1, -⟩ := id hL
  obtain ⟨hyk, h1, h2, h3⟩ := hl
  have hrec := vk_recv (i := t) hK.2.2.2.2.2.2.2.2.2.2.2.2 ht hS
  refine hg_back hF hK hR hS hL hz hret hb kk (va_runV (C := Z.1.cls) (As := As) (rest := rest) (Ts := hg_T) (own := Y.1.cls) ⟨hF.1, hF.2.1, hF.2.2.1, hF.2.2.2.1, hF.2.2.2.2.1⟩ hm ⟨callB_of n hF.2.2.2.2.1 (hg_goodw hyk) rfl rfl rfl (hF.ts hyk.2.1) (hF.ts h1) hyk.2.2.1 (hg_room ⟨hR.1, hR.2.1⟩ hyk.2.2.2.1), hF.ts h2, hF.ts h3⟩ ⟨hg_blind, by rw [hci]; exact hrec, fun U hU hW => ⟨rfl, by rw [hU]; exact hP, hK.to hS hU hW, by rw [hU]; exact Nat.le_trans hz hS.1⟩⟩ rfl hn hl1.1 hst (lv_room hw) hd ⟨by omega, by omega⟩)
-- ends
theorem hg_ireturn {v : Int32} {ty : FieldType} {P : Int32 → hg_M → Prop} (hd : hg_D Y pc pc' 1 .ireturn) (hr : Y.2.2.2 = some ty) (hn : narrow ty (.int v) = .int v) (h : P v M) : hg_WP l E d Y mc ms pc loc [.int v] M (hg_i P) := by
  intro p e R s m args below meth c H locs cells slots Zs ls hF hK hR hP hS hL hz hret
  exact hret pc ls H locs cells slots (some (.int v)) M ⟨v, rfl, h⟩ (Or.inl ⟨v, ty, rfl, hd.1, hr, hn⟩) hP hS (by omega) (by omega)
theorem hg_lreturn {v : Int64} {P : Int64 → hg_M → Prop} (hd : hg_D Y pc pc' 1 .lreturn) (hr : Y.2.2.2 = some .long) (h : P v M) : hg_WP l E d Y mc ms pc loc [.long v] M (hg_l P) := by
  intro p e R s m args below meth c H locs cells slots Zs ls hF hK hR hP hS hL hz hret
  exact hret pc ls H locs cells slots (some (.long v)) M ⟨v, rfl, h⟩ (Or.inr (Or.inl ⟨v, rfl, hd.1, hr⟩)) hP hS (by omega) (by omega)
theorem hg_return {P : hg_M → Prop} (hd : hg_D Y pc pc' 1 .return_) (hr : Y.2.2.2 = none) (h : P M) : hg_WP l E d Y mc ms pc loc [] M (hg_v P) := by
  intro p e R s m args below meth c H locs cells slots Zs ls hF hK hR hP hS hL hz hret
  exact hret pc ls H locs cells slots none M ⟨rfl, h⟩ (Or.inr (Or.inr (Or.inl ⟨rfl, hd.1, hr⟩))) hP hS (by omega) (by omega)
theorem hg_areturn {k i : Nat} {rt : FieldType} {P : Option (Nat × Nat) → hg_M → Prop} (hd : hg_D Y pc pc' 1 .areturn) (hr : Y.2.2.2 = some rt) (hrt : (∃ n, rt = .object n) ∨ ∃ t, rt = .array t) (h : P (some (k, i)) M) : hg_WP l E d Y mc ms pc loc [.ref (hg_ad E k i)] M (hg_r E P) := by
  intro p e R s m args below meth c H locs cells slots Zs ls hF hK hR hP hS hL hz hret
  exact hret pc ls H locs cells slots (some (.ref (hg_ad E k i))) M ⟨some (k, i), rfl, h⟩ (Or.inr (Or.inr (Or.inr ⟨_, rt, rfl, Or.inr ⟨_, rfl⟩, hd.1, hr, hrt⟩))) hP hS (by omega) (by omega)
theorem hg_areturnN {rt : FieldType} {P : Option (Nat × Nat) → hg_M → Prop} (hd : hg_D Y pc pc' 1 .areturn) (hr : Y.2.2.2 = some rt) (hrt : (∃ n, rt = .object n) ∨ ∃ t, rt = .array t) (h : P none M) : hg_WP l E d Y mc ms pc loc [.null] M (hg_r E P) := by
  intro p e R s m args below meth c H locs cells slots Zs ls hF hK hR hP hS hL hz hret
  exact hret pc ls H locs cells slots (some .null) M ⟨none, rfl, h⟩ (Or.inr (Or.inr (Or.inr ⟨_, rt, rfl, Or.inl rfl, hd.1, hr, hrt⟩))) hP hS (by omega) (by omega)
theorem hg_post {Q' : Option Value → hg_M → Prop} (h : hg_WP l E d Y mc ms pc loc st M Q') (hq : ∀ r M', Q' r M' → Q r M') : hg_WP l E d Y mc ms pc loc st M Q := by
  intro p e R s m args below meth c H locs cells slots Zs ls hF hK hR hP hS hL hz hret
  exact h p e R s m args below meth c H locs cells slots Zs ls hF hK hR hP hS hL hz (fun pc ls H locs c' s' r M' h1 => hret pc ls H locs c' s' r M' (hq r M' h1))
theorem hg_less {mc' ms' : Nat} (h : hg_WP l E d Y mc' ms' pc loc st M Q) (h1 : mc' ≤ mc) (h2 : ms' ≤ ms) : hg_WP l E d Y mc ms pc loc st M Q := by
  intro p e R s m args below meth c H locs cells slots Zs ls hF hK hR hP hS hL hz hret
  exact h p e R s m args below meth c H locs cells slots Zs ls hF hK ⟨hR.1, hR.2.1, by omega, by omega⟩ hP hS hL hz (fun pc ls H locs c' s' r M' g1 g2 g3 g4 g5 g6 => hret pc ls H locs c' s' r M' g1 g2 g3 g4 (by omega) (by omega))
/-- a method, from its start -/
theorem hg_mc {n : Nat} {as : List Value} (hk : hg_YK Y n) (hlen : (lg_sl as).length ≤ Y.2.2.1) (h : hg_WP l E d Y mc ms 0 (hg_lo Y.2.2.1 as) [] M Q) : hg_MC l E (d + 1) Y mc ms as M Q := by
  refine Met.ofW (cc := Y.2.1) (maxL := Y.2.2.1) (ret := Y.2.2.2) hk.2.2.2.2 rfl ?_
  intro p e s m args below meth c s₁ B hml hv
  obtain ⟨rfl, hrep, hkn, hz⟩ := hv
  have hts := atoms_spec (ws := hg_yw Y :: hg_T) B.pre
  have hl := lv_entry as (n := Y.2.2.1) hlen
  rw [lg_entry_eq]
  generalize (lg_sl as ++ List.replicate (Y.2.2.1 - (lg_sl as).length) Slot.unset).toArray = ls at hl ⊢
  refine h p e _ s m _ below meth c s.heap [] 0 0 _ ls ⟨B.exec, B.bytes, hml, findClass_of_methodNamed B.named, fun w hw => hts w (List.mem_cons_of_mem _ hw), fun hn => (name_of_methodNamed B.named B.method).1.trans hn⟩ hkn ⟨Nat.le_refl _, Nat.le_refl _, by show 0 + mc ≤ mc; omega, by show 0 + ms ≤ ms; omega⟩ hrep va_S.rf ⟨hg_lo_len as _ hlen, _, hl, fun i v hi => by have := hg_lo_in as _ 0 i v hi; rwa [Nat.zero_add] at this⟩ hz ?_
  intro pc ls H locs cells' slots' r M' hq hr hP hS hc hs
  have hr0 := B.returns
  have hlocks := B.notSynchronized
  refine W.widen (k := mc) (n := ms) (by omega) (by omega) ?_
  rcases hr with ⟨v, ty, rfl, h1, h2, h3⟩ | ⟨v, rfl, h1, h2⟩ | ⟨rfl, h1, h2⟩ | ⟨v, rt, rfl, hv, h1, h2, h3⟩
  · exact W.zret B.exec B.bytes (hr0.trans h2) h3 (fun t ht hW => ⟨⟨_, M', rfl, hq, by rw [ht]; exact hP⟩, hS.F ht⟩) hS.2.2 h1 hlocks
  · exact W.lret B.exec B.bytes (hr0.trans h2) (fun t ht hW => ⟨⟨_, M', rfl, hq, by rw [ht]; exact hP⟩, hS.F ht⟩) hS.2.2 h1 hlocks
  · exact W.vret B.exec B.bytes (hr0.trans h2) (fun t ht hW => ⟨⟨_, M', rfl, hq, by rw [ht]; exact hP⟩, hS.F ht⟩) hS.2.2 h1 hlocks
  · exact W.aret B.exec B.bytes (hr0.trans h2) h3 hv (fun t ht hW => ⟨⟨_, M', rfl, hq, by rw [ht]; exact hP⟩, hS.F ht⟩) hS.2.2 h1 hlocks
end HG3
