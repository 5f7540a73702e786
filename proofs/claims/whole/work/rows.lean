section
-- ===== PART A: goes FIRST, ahead of the names: the tables' words, and 'selects' of the private methods out of them =====
/-- a private method of a class that the tables say can be made, by its rows of tables_1 -/
def lw_okq (q : MethodName × Nat) : Prop := (q.1.cls ≠ "java/lang/invoke/MethodHandle" ∧ q.1.cls ≠ "java/lang/invoke/VarHandle") ∧ Cond.instantiable q.1.cls q.2 ∈ tables_1 ∧ Cond.privateMethod q.1 ∈ tables_1 ∧ Cond.instanceMethod q.1 ∈ tables_1
theorem lw_p0 : lw_okq (⟨"HangmanDinner", "comes", "(I)I"⟩, 15) := ⟨⟨by decide +kernel, by decide +kernel⟩, List.mem_of_getElem? (i := 18) (by decide +kernel), List.mem_of_getElem? (i := 319) (by decide +kernel), List.mem_of_getElem? (i := 320) (by decide +kernel)⟩
theorem lw_p1 : lw_okq (⟨"HangmanDinner$Scene", "hostPlace", "()I"⟩, 9) := ⟨⟨by decide +kernel, by decide +kernel⟩, List.mem_of_getElem? (i := 120) (by decide +kernel), List.mem_of_getElem? (i := 336) (by decide +kernel), List.mem_of_getElem? (i := 337) (by decide +kernel)⟩
theorem lw_p2 : lw_okq (⟨"HangmanDinner$Scene", "behindPoint", "(I)I"⟩, 9) := ⟨⟨by decide +kernel, by decide +kernel⟩, List.mem_of_getElem? (i := 120) (by decide +kernel), List.mem_of_getElem? (i := 340) (by decide +kernel), List.mem_of_getElem? (i := 341) (by decide +kernel)⟩
theorem lw_p3 : lw_okq (⟨"HangmanDinner$Scene", "dineAt", "(I)V"⟩, 9) := ⟨⟨by decide +kernel, by decide +kernel⟩, List.mem_of_getElem? (i := 120) (by decide +kernel), List.mem_of_getElem? (i := 345) (by decide +kernel), List.mem_of_getElem? (i := 346) (by decide +kernel)⟩
theorem lw_p4 : lw_okq (⟨"HangmanDinner$Reader", "clause", "()Z"⟩, 7) := ⟨⟨by decide +kernel, by decide +kernel⟩, List.mem_of_getElem? (i := 46) (by decide +kernel), List.mem_of_getElem? (i := 391) (by decide +kernel), List.mem_of_getElem? (i := 392) (by decide +kernel)⟩
theorem lw_p5 : lw_okq (⟨"HangmanDinner$Reader", "word", "(Ljava/lang/String;)Z"⟩, 7) := ⟨⟨by decide +kernel, by decide +kernel⟩, List.mem_of_getElem? (i := 46) (by decide +kernel), List.mem_of_getElem? (i := 396) (by decide +kernel), List.mem_of_getElem? (i := 397) (by decide +kernel)⟩
theorem lw_p6 : lw_okq (⟨"HangmanDinner$Reader", "sign", "(C)Z"⟩, 7) := ⟨⟨by decide +kernel, by decide +kernel⟩, List.mem_of_getElem? (i := 46) (by decide +kernel), List.mem_of_getElem? (i := 448) (by decide +kernel), List.mem_of_getElem? (i := 449) (by decide +kernel)⟩
theorem lw_p7 : lw_okq (⟨"HangmanDinner$Reader", "number", "()Z"⟩, 7) := ⟨⟨by decide +kernel, by decide +kernel⟩, List.mem_of_getElem? (i := 46) (by decide +kernel), List.mem_of_getElem? (i := 452) (by decide +kernel), List.mem_of_getElem? (i := 453) (by decide +kernel)⟩
theorem lw_p8 : lw_okq (⟨"HangmanDinner$Reader", "either", "(I)Z"⟩, 7) := ⟨⟨by decide +kernel, by decide +kernel⟩, List.mem_of_getElem? (i := 46) (by decide +kernel), List.mem_of_getElem? (i := 458) (by decide +kernel), List.mem_of_getElem? (i := 459) (by decide +kernel)⟩
theorem lw_p9 : lw_okq (⟨"HangmanDinner$Reader", "both", "(I)Z"⟩, 7) := ⟨⟨by decide +kernel, by decide +kernel⟩, List.mem_of_getElem? (i := 46) (by decide +kernel), List.mem_of_getElem? (i := 462) (by decide +kernel), List.mem_of_getElem? (i := 463) (by decide +kernel)⟩
theorem lw_p10 : lw_okq (⟨"HangmanDinner$Reader", "factor", "(I)Z"⟩, 7) := ⟨⟨by decide +kernel, by decide +kernel⟩, List.mem_of_getElem? (i := 46) (by decide +kernel), List.mem_of_getElem? (i := 466) (by decide +kernel), List.mem_of_getElem? (i := 467) (by decide +kernel)⟩
theorem lw_p11 : lw_okq (⟨"HangmanDinner$Reader", "test", "()Z"⟩, 7) := ⟨⟨by decide +kernel, by decide +kernel⟩, List.mem_of_getElem? (i := 46) (by decide +kernel), List.mem_of_getElem? (i := 470) (by decide +kernel), List.mem_of_getElem? (i := 471) (by decide +kernel)⟩
theorem lw_p12 : lw_okq (⟨"HangmanDinner$Reader", "write", "(III)V"⟩, 7) := ⟨⟨by decide +kernel, by decide +kernel⟩, List.mem_of_getElem? (i := 46) (by decide +kernel), List.mem_of_getElem? (i := 533) (by decide +kernel), List.mem_of_getElem? (i := 534) (by decide +kernel)⟩
theorem lw_p13 : lw_okq (⟨"HangmanDinner", "illOnes", "()I"⟩, 15) := ⟨⟨by decide +kernel, by decide +kernel⟩, List.mem_of_getElem? (i := 18) (by decide +kernel), List.mem_of_getElem? (i := 554) (by decide +kernel), List.mem_of_getElem? (i := 555) (by decide +kernel)⟩
theorem lw_p14 : lw_okq (⟨"HangmanDinner", "openOnes", "()I"⟩, 15) := ⟨⟨by decide +kernel, by decide +kernel⟩, List.mem_of_getElem? (i := 18) (by decide +kernel), List.mem_of_getElem? (i := 579) (by decide +kernel), List.mem_of_getElem? (i := 580) (by decide +kernel)⟩
theorem lw_p15 : lw_okq (⟨"HangmanDinner", "dineBySet", "(II)V"⟩, 15) := ⟨⟨by decide +kernel, by decide +kernel⟩, List.mem_of_getElem? (i := 18) (by decide +kernel), List.mem_of_getElem? (i := 583) (by decide +kernel), List.mem_of_getElem? (i := 584) (by decide +kernel)⟩
def lw_privs_1 : List (MethodName × Nat) := [(⟨"HangmanDinner", "comes", "(I)I"⟩, 15), (⟨"HangmanDinner$Scene", "hostPlace", "()I"⟩, 9), (⟨"HangmanDinner$Scene", "behindPoint", "(I)I"⟩, 9), (⟨"HangmanDinner$Scene", "dineAt", "(I)V"⟩, 9), (⟨"HangmanDinner$Reader", "clause", "()Z"⟩, 7), (⟨"HangmanDinner$Reader", "word", "(Ljava/lang/String;)Z"⟩, 7), (⟨"HangmanDinner$Reader", "sign", "(C)Z"⟩, 7), (⟨"HangmanDinner$Reader", "number", "()Z"⟩, 7), (⟨"HangmanDinner$Reader", "either", "(I)Z"⟩, 7), (⟨"HangmanDinner$Reader", "both", "(I)Z"⟩, 7), (⟨"HangmanDinner$Reader", "factor", "(I)Z"⟩, 7), (⟨"HangmanDinner$Reader", "test", "()Z"⟩, 7), (⟨"HangmanDinner$Reader", "write", "(III)V"⟩, 7), (⟨"HangmanDinner", "illOnes", "()I"⟩, 15), (⟨"HangmanDinner", "openOnes", "()I"⟩, 15), (⟨"HangmanDinner", "dineBySet", "(II)V"⟩, 15)]
theorem lw_r1 : ∀ q ∈ lw_privs_1, lw_okq q := List.forall_mem_cons.mpr ⟨lw_p0, List.forall_mem_cons.mpr ⟨lw_p1, List.forall_mem_cons.mpr ⟨lw_p2, List.forall_mem_cons.mpr ⟨lw_p3, List.forall_mem_cons.mpr ⟨lw_p4, List.forall_mem_cons.mpr ⟨lw_p5, List.forall_mem_cons.mpr ⟨lw_p6, List.forall_mem_cons.mpr ⟨lw_p7, List.forall_mem_cons.mpr ⟨lw_p8, List.forall_mem_cons.mpr ⟨lw_p9, List.forall_mem_cons.mpr ⟨lw_p10, List.forall_mem_cons.mpr ⟨lw_p11, List.forall_mem_cons.mpr ⟨lw_p12, List.forall_mem_cons.mpr ⟨lw_p13, List.forall_mem_cons.mpr ⟨lw_p14, List.forall_mem_cons.mpr ⟨lw_p15, fun _ h => absurd h List.not_mem_nil⟩⟩⟩⟩⟩⟩⟩⟩⟩⟩⟩⟩⟩⟩⟩⟩
theorem lw_p16 : lw_okq (⟨"HangmanDinner", "rests", "(II)Z"⟩, 15) := ⟨⟨by decide +kernel, by decide +kernel⟩, List.mem_of_getElem? (i := 18) (by decide +kernel), List.mem_of_getElem? (i := 587) (by decide +kernel), List.mem_of_getElem? (i := 588) (by decide +kernel)⟩
theorem lw_p17 : lw_okq (⟨"HangmanDinner", "allSeenGoesSo", "()Z"⟩, 15) := ⟨⟨by decide +kernel, by decide +kernel⟩, List.mem_of_getElem? (i := 18) (by decide +kernel), List.mem_of_getElem? (i := 607) (by decide +kernel), List.mem_of_getElem? (i := 608) (by decide +kernel)⟩
theorem lw_p18 : lw_okq (⟨"HangmanDinner", "goAsPlanned", "(II)V"⟩, 15) := ⟨⟨by decide +kernel, by decide +kernel⟩, List.mem_of_getElem? (i := 18) (by decide +kernel), List.mem_of_getElem? (i := 635) (by decide +kernel), List.mem_of_getElem? (i := 636) (by decide +kernel)⟩
theorem lw_p19 : lw_okq (⟨"HangmanDinner", "tapeAt", "(I)LHangmanDinner$Tape;"⟩, 15) := ⟨⟨by decide +kernel, by decide +kernel⟩, List.mem_of_getElem? (i := 18) (by decide +kernel), List.mem_of_getElem? (i := 651) (by decide +kernel), List.mem_of_getElem? (i := 652) (by decide +kernel)⟩
theorem lw_p20 : lw_okq (⟨"HangmanDinner$Talk", "find", "(IIII)I"⟩, 5) := ⟨⟨by decide +kernel, by decide +kernel⟩, List.mem_of_getElem? (i := 76) (by decide +kernel), List.mem_of_getElem? (i := 684) (by decide +kernel), List.mem_of_getElem? (i := 685) (by decide +kernel)⟩
theorem lw_p21 : lw_okq (⟨"HangmanDinner$Talk", "run", "(IIII)I"⟩, 5) := ⟨⟨by decide +kernel, by decide +kernel⟩, List.mem_of_getElem? (i := 76) (by decide +kernel), List.mem_of_getElem? (i := 690) (by decide +kernel), List.mem_of_getElem? (i := 691) (by decide +kernel)⟩
theorem lw_p22 : lw_okq (⟨"HangmanDinnerModel", "isOne", "(I)Z"⟩, 48) := ⟨⟨by decide +kernel, by decide +kernel⟩, List.mem_of_getElem? (i := 745) (by decide +kernel), List.mem_of_getElem? (i := 908) (by decide +kernel), List.mem_of_getElem? (i := 909) (by decide +kernel)⟩
theorem lw_p23 : lw_okq (⟨"HangmanDinnerModel", "dread", "(I)I"⟩, 48) := ⟨⟨by decide +kernel, by decide +kernel⟩, List.mem_of_getElem? (i := 745) (by decide +kernel), List.mem_of_getElem? (i := 912) (by decide +kernel), List.mem_of_getElem? (i := 913) (by decide +kernel)⟩
theorem lw_p24 : lw_okq (⟨"HangmanDinnerModel", "sum", "(I)I"⟩, 48) := ⟨⟨by decide +kernel, by decide +kernel⟩, List.mem_of_getElem? (i := 745) (by decide +kernel), List.mem_of_getElem? (i := 916) (by decide +kernel), List.mem_of_getElem? (i := 917) (by decide +kernel)⟩
theorem lw_p25 : lw_okq (⟨"HangmanDinnerModel", "isTrue", "(II)Z"⟩, 48) := ⟨⟨by decide +kernel, by decide +kernel⟩, List.mem_of_getElem? (i := 745) (by decide +kernel), List.mem_of_getElem? (i := 920) (by decide +kernel), List.mem_of_getElem? (i := 921) (by decide +kernel)⟩
theorem lw_p26 : lw_okq (⟨"HangmanDinnerModel", "letterOf", "(II)I"⟩, 48) := ⟨⟨by decide +kernel, by decide +kernel⟩, List.mem_of_getElem? (i := 745) (by decide +kernel), List.mem_of_getElem? (i := 924) (by decide +kernel), List.mem_of_getElem? (i := 925) (by decide +kernel)⟩
theorem lw_p27 : lw_okq (⟨"HangmanDinnerModel", "isIll", "(I)Z"⟩, 48) := ⟨⟨by decide +kernel, by decide +kernel⟩, List.mem_of_getElem? (i := 745) (by decide +kernel), List.mem_of_getElem? (i := 929) (by decide +kernel), List.mem_of_getElem? (i := 930) (by decide +kernel)⟩
theorem lw_p28 : lw_okq (⟨"HangmanDinnerModel", "illFrom", "()I"⟩, 48) := ⟨⟨by decide +kernel, by decide +kernel⟩, List.mem_of_getElem? (i := 745) (by decide +kernel), List.mem_of_getElem? (i := 933) (by decide +kernel), List.mem_of_getElem? (i := 934) (by decide +kernel)⟩
theorem lw_p29 : lw_okq (⟨"HangmanDinnerModel", "comesTo", "(I)I"⟩, 48) := ⟨⟨by decide +kernel, by decide +kernel⟩, List.mem_of_getElem? (i := 745) (by decide +kernel), List.mem_of_getElem? (i := 937) (by decide +kernel), List.mem_of_getElem? (i := 938) (by decide +kernel)⟩
theorem lw_p30 : lw_okq (⟨"HangmanDinnerModel", "keep", "([I)V"⟩, 48) := ⟨⟨by decide +kernel, by decide +kernel⟩, List.mem_of_getElem? (i := 745) (by decide +kernel), List.mem_of_getElem? (i := 941) (by decide +kernel), List.mem_of_getElem? (i := 942) (by decide +kernel)⟩
theorem lw_p31 : lw_okq (⟨"HangmanDinnerModel", "goesThursday", "()V"⟩, 48) := ⟨⟨by decide +kernel, by decide +kernel⟩, List.mem_of_getElem? (i := 745) (by decide +kernel), List.mem_of_getElem? (i := 945) (by decide +kernel), List.mem_of_getElem? (i := 946) (by decide +kernel)⟩
def lw_privs_2 : List (MethodName × Nat) := [(⟨"HangmanDinner", "rests", "(II)Z"⟩, 15), (⟨"HangmanDinner", "allSeenGoesSo", "()Z"⟩, 15), (⟨"HangmanDinner", "goAsPlanned", "(II)V"⟩, 15), (⟨"HangmanDinner", "tapeAt", "(I)LHangmanDinner$Tape;"⟩, 15), (⟨"HangmanDinner$Talk", "find", "(IIII)I"⟩, 5), (⟨"HangmanDinner$Talk", "run", "(IIII)I"⟩, 5), (⟨"HangmanDinnerModel", "isOne", "(I)Z"⟩, 48), (⟨"HangmanDinnerModel", "dread", "(I)I"⟩, 48), (⟨"HangmanDinnerModel", "sum", "(I)I"⟩, 48), (⟨"HangmanDinnerModel", "isTrue", "(II)Z"⟩, 48), (⟨"HangmanDinnerModel", "letterOf", "(II)I"⟩, 48), (⟨"HangmanDinnerModel", "isIll", "(I)Z"⟩, 48), (⟨"HangmanDinnerModel", "illFrom", "()I"⟩, 48), (⟨"HangmanDinnerModel", "comesTo", "(I)I"⟩, 48), (⟨"HangmanDinnerModel", "keep", "([I)V"⟩, 48), (⟨"HangmanDinnerModel", "goesThursday", "()V"⟩, 48)]
theorem lw_r2 : ∀ q ∈ lw_privs_2, lw_okq q := List.forall_mem_cons.mpr ⟨lw_p16, List.forall_mem_cons.mpr ⟨lw_p17, List.forall_mem_cons.mpr ⟨lw_p18, List.forall_mem_cons.mpr ⟨lw_p19, List.forall_mem_cons.mpr ⟨lw_p20, List.forall_mem_cons.mpr ⟨lw_p21, List.forall_mem_cons.mpr ⟨lw_p22, List.forall_mem_cons.mpr ⟨lw_p23, List.forall_mem_cons.mpr ⟨lw_p24, List.forall_mem_cons.mpr ⟨lw_p25, List.forall_mem_cons.mpr ⟨lw_p26, List.forall_mem_cons.mpr ⟨lw_p27, List.forall_mem_cons.mpr ⟨lw_p28, List.forall_mem_cons.mpr ⟨lw_p29, List.forall_mem_cons.mpr ⟨lw_p30, List.forall_mem_cons.mpr ⟨lw_p31, fun _ h => absurd h List.not_mem_nil⟩⟩⟩⟩⟩⟩⟩⟩⟩⟩⟩⟩⟩⟩⟩⟩
theorem lw_p32 : lw_okq (⟨"HangmanDinnerModel", "ills", "()I"⟩, 48) := ⟨⟨by decide +kernel, by decide +kernel⟩, List.mem_of_getElem? (i := 745) (by decide +kernel), List.mem_of_getElem? (i := 949) (by decide +kernel), List.mem_of_getElem? (i := 950) (by decide +kernel)⟩
theorem lw_p33 : lw_okq (⟨"HangmanDinnerModel", "placeBy", "(I)I"⟩, 48) := ⟨⟨by decide +kernel, by decide +kernel⟩, List.mem_of_getElem? (i := 745) (by decide +kernel), List.mem_of_getElem? (i := 953) (by decide +kernel), List.mem_of_getElem? (i := 954) (by decide +kernel)⟩
theorem lw_p34 : lw_okq (⟨"HangmanDinnerModel", "host", "()I"⟩, 48) := ⟨⟨by decide +kernel, by decide +kernel⟩, List.mem_of_getElem? (i := 745) (by decide +kernel), List.mem_of_getElem? (i := 960) (by decide +kernel), List.mem_of_getElem? (i := 961) (by decide +kernel)⟩
theorem lw_p35 : lw_okq (⟨"HangmanDinnerModel", "again", "([I)V"⟩, 48) := ⟨⟨by decide +kernel, by decide +kernel⟩, List.mem_of_getElem? (i := 745) (by decide +kernel), List.mem_of_getElem? (i := 964) (by decide +kernel), List.mem_of_getElem? (i := 965) (by decide +kernel)⟩
theorem lw_p36 : lw_okq (⟨"HangmanDinnerModel", "placeOf", "(I)I"⟩, 48) := ⟨⟨by decide +kernel, by decide +kernel⟩, List.mem_of_getElem? (i := 745) (by decide +kernel), List.mem_of_getElem? (i := 968) (by decide +kernel), List.mem_of_getElem? (i := 969) (by decide +kernel)⟩
theorem lw_p37 : lw_okq (⟨"HangmanDinnerModel", "swaps", "(II)V"⟩, 48) := ⟨⟨by decide +kernel, by decide +kernel⟩, List.mem_of_getElem? (i := 745) (by decide +kernel), List.mem_of_getElem? (i := 984) (by decide +kernel), List.mem_of_getElem? (i := 985) (by decide +kernel)⟩
theorem lw_p38 : lw_okq (⟨"HangmanDinnerModel", "isClause", "(I)Z"⟩, 48) := ⟨⟨by decide +kernel, by decide +kernel⟩, List.mem_of_getElem? (i := 745) (by decide +kernel), List.mem_of_getElem? (i := 1000) (by decide +kernel), List.mem_of_getElem? (i := 1001) (by decide +kernel)⟩
theorem lw_p39 : lw_okq (⟨"HangmanDinnerModel", "isAll", "(Ljava/lang/String;)Z"⟩, 48) := ⟨⟨by decide +kernel, by decide +kernel⟩, List.mem_of_getElem? (i := 745) (by decide +kernel), List.mem_of_getElem? (i := 1005) (by decide +kernel), List.mem_of_getElem? (i := 1006) (by decide +kernel)⟩
theorem lw_p40 : lw_okq (⟨"HangmanDinnerModel", "is", "(I)Z"⟩, 48) := ⟨⟨by decide +kernel, by decide +kernel⟩, List.mem_of_getElem? (i := 745) (by decide +kernel), List.mem_of_getElem? (i := 1011) (by decide +kernel), List.mem_of_getElem? (i := 1012) (by decide +kernel)⟩
theorem lw_p41 : lw_okq (⟨"HangmanDinnerModel", "isNumber", "()Z"⟩, 48) := ⟨⟨by decide +kernel, by decide +kernel⟩, List.mem_of_getElem? (i := 745) (by decide +kernel), List.mem_of_getElem? (i := 1017) (by decide +kernel), List.mem_of_getElem? (i := 1018) (by decide +kernel)⟩
theorem lw_p42 : lw_okq (⟨"HangmanDinnerModel", "isDigit", "()Z"⟩, 48) := ⟨⟨by decide +kernel, by decide +kernel⟩, List.mem_of_getElem? (i := 745) (by decide +kernel), List.mem_of_getElem? (i := 1021) (by decide +kernel), List.mem_of_getElem? (i := 1022) (by decide +kernel)⟩
theorem lw_p43 : lw_okq (⟨"HangmanDinnerModel", "isE", "()Z"⟩, 48) := ⟨⟨by decide +kernel, by decide +kernel⟩, List.mem_of_getElem? (i := 745) (by decide +kernel), List.mem_of_getElem? (i := 1025) (by decide +kernel), List.mem_of_getElem? (i := 1026) (by decide +kernel)⟩
theorem lw_p44 : lw_okq (⟨"HangmanDinnerModel", "isT", "()Z"⟩, 48) := ⟨⟨by decide +kernel, by decide +kernel⟩, List.mem_of_getElem? (i := 745) (by decide +kernel), List.mem_of_getElem? (i := 1029) (by decide +kernel), List.mem_of_getElem? (i := 1030) (by decide +kernel)⟩
theorem lw_p45 : lw_okq (⟨"HangmanDinnerModel", "isF", "()Z"⟩, 48) := ⟨⟨by decide +kernel, by decide +kernel⟩, List.mem_of_getElem? (i := 745) (by decide +kernel), List.mem_of_getElem? (i := 1033) (by decide +kernel), List.mem_of_getElem? (i := 1034) (by decide +kernel)⟩
theorem lw_p46 : lw_okq (⟨"HangmanDinnerModel", "isOpened", "(I)Z"⟩, 48) := ⟨⟨by decide +kernel, by decide +kernel⟩, List.mem_of_getElem? (i := 745) (by decide +kernel), List.mem_of_getElem? (i := 1037) (by decide +kernel), List.mem_of_getElem? (i := 1038) (by decide +kernel)⟩
theorem lw_p47 : lw_okq (⟨"HangmanDinnerModel", "codes", "(I)Z"⟩, 48) := ⟨⟨by decide +kernel, by decide +kernel⟩, List.mem_of_getElem? (i := 745) (by decide +kernel), List.mem_of_getElem? (i := 1041) (by decide +kernel), List.mem_of_getElem? (i := 1042) (by decide +kernel)⟩
def lw_privs_3 : List (MethodName × Nat) := [(⟨"HangmanDinnerModel", "ills", "()I"⟩, 48), (⟨"HangmanDinnerModel", "placeBy", "(I)I"⟩, 48), (⟨"HangmanDinnerModel", "host", "()I"⟩, 48), (⟨"HangmanDinnerModel", "again", "([I)V"⟩, 48), (⟨"HangmanDinnerModel", "placeOf", "(I)I"⟩, 48), (⟨"HangmanDinnerModel", "swaps", "(II)V"⟩, 48), (⟨"HangmanDinnerModel", "isClause", "(I)Z"⟩, 48), (⟨"HangmanDinnerModel", "isAll", "(Ljava/lang/String;)Z"⟩, 48), (⟨"HangmanDinnerModel", "is", "(I)Z"⟩, 48), (⟨"HangmanDinnerModel", "isNumber", "()Z"⟩, 48), (⟨"HangmanDinnerModel", "isDigit", "()Z"⟩, 48), (⟨"HangmanDinnerModel", "isE", "()Z"⟩, 48), (⟨"HangmanDinnerModel", "isT", "()Z"⟩, 48), (⟨"HangmanDinnerModel", "isF", "()Z"⟩, 48), (⟨"HangmanDinnerModel", "isOpened", "(I)Z"⟩, 48), (⟨"HangmanDinnerModel", "codes", "(I)Z"⟩, 48)]
theorem lw_r3 : ∀ q ∈ lw_privs_3, lw_okq q := List.forall_mem_cons.mpr ⟨lw_p32, List.forall_mem_cons.mpr ⟨lw_p33, List.forall_mem_cons.mpr ⟨lw_p34, List.forall_mem_cons.mpr ⟨lw_p35, List.forall_mem_cons.mpr ⟨lw_p36, List.forall_mem_cons.mpr ⟨lw_p37, List.forall_mem_cons.mpr ⟨lw_p38, List.forall_mem_cons.mpr ⟨lw_p39, List.forall_mem_cons.mpr ⟨lw_p40, List.forall_mem_cons.mpr ⟨lw_p41, List.forall_mem_cons.mpr ⟨lw_p42, List.forall_mem_cons.mpr ⟨lw_p43, List.forall_mem_cons.mpr ⟨lw_p44, List.forall_mem_cons.mpr ⟨lw_p45, List.forall_mem_cons.mpr ⟨lw_p46, List.forall_mem_cons.mpr ⟨lw_p47, fun _ h => absurd h List.not_mem_nil⟩⟩⟩⟩⟩⟩⟩⟩⟩⟩⟩⟩⟩⟩⟩⟩
theorem lw_p48 : lw_okq (⟨"HangmanDinnerModel", "isTest", "()Z"⟩, 48) := ⟨⟨by decide +kernel, by decide +kernel⟩, List.mem_of_getElem? (i := 745) (by decide +kernel), List.mem_of_getElem? (i := 1045) (by decide +kernel), List.mem_of_getElem? (i := 1046) (by decide +kernel)⟩
theorem lw_p49 : lw_okq (⟨"HangmanDinnerModel", "clashesBehind", "(I)I"⟩, 48) := ⟨⟨by decide +kernel, by decide +kernel⟩, List.mem_of_getElem? (i := 745) (by decide +kernel), List.mem_of_getElem? (i := 1071) (by decide +kernel), List.mem_of_getElem? (i := 1072) (by decide +kernel)⟩
theorem lw_p50 : lw_okq (⟨"HangmanDinnerModel", "openOnes", "()I"⟩, 48) := ⟨⟨by decide +kernel, by decide +kernel⟩, List.mem_of_getElem? (i := 745) (by decide +kernel), List.mem_of_getElem? (i := 1079) (by decide +kernel), List.mem_of_getElem? (i := 1080) (by decide +kernel)⟩
theorem lw_p51 : lw_okq (⟨"HangmanDinnerModel", "feigns", "(II)V"⟩, 48) := ⟨⟨by decide +kernel, by decide +kernel⟩, List.mem_of_getElem? (i := 745) (by decide +kernel), List.mem_of_getElem? (i := 1083) (by decide +kernel), List.mem_of_getElem? (i := 1084) (by decide +kernel)⟩
theorem lw_p52 : lw_okq (⟨"HangmanDinnerModel", "rests", "(II)Z"⟩, 48) := ⟨⟨by decide +kernel, by decide +kernel⟩, List.mem_of_getElem? (i := 745) (by decide +kernel), List.mem_of_getElem? (i := 1087) (by decide +kernel), List.mem_of_getElem? (i := 1088) (by decide +kernel)⟩
theorem lw_p53 : lw_okq (⟨"HangmanDinnerModel", "isSeen", "()Z"⟩, 48) := ⟨⟨by decide +kernel, by decide +kernel⟩, List.mem_of_getElem? (i := 745) (by decide +kernel), List.mem_of_getElem? (i := 1099) (by decide +kernel), List.mem_of_getElem? (i := 1100) (by decide +kernel)⟩
theorem lw_p54 : lw_okq (⟨"HangmanDinnerModel", "asks", "(III)I"⟩, 48) := ⟨⟨by decide +kernel, by decide +kernel⟩, List.mem_of_getElem? (i := 745) (by decide +kernel), List.mem_of_getElem? (i := 1147) (by decide +kernel), List.mem_of_getElem? (i := 1148) (by decide +kernel)⟩
theorem lw_p55 : lw_okq (⟨"HangmanDinnerModel", "ran", "(I)V"⟩, 48) := ⟨⟨by decide +kernel, by decide +kernel⟩, List.mem_of_getElem? (i := 745) (by decide +kernel), List.mem_of_getElem? (i := 1151) (by decide +kernel), List.mem_of_getElem? (i := 1152) (by decide +kernel)⟩
theorem lw_p56 : lw_okq (⟨"HangmanDinnerModel", "talks", "(III)I"⟩, 48) := ⟨⟨by decide +kernel, by decide +kernel⟩, List.mem_of_getElem? (i := 745) (by decide +kernel), List.mem_of_getElem? (i := 1158) (by decide +kernel), List.mem_of_getElem? (i := 1159) (by decide +kernel)⟩
theorem lw_p57 : lw_okq (⟨"HangmanDinnerModel", "tells", "(III)I"⟩, 48) := ⟨⟨by decide +kernel, by decide +kernel⟩, List.mem_of_getElem? (i := 745) (by decide +kernel), List.mem_of_getElem? (i := 1162) (by decide +kernel), List.mem_of_getElem? (i := 1163) (by decide +kernel)⟩
def lw_privs_4 : List (MethodName × Nat) := [(⟨"HangmanDinnerModel", "isTest", "()Z"⟩, 48), (⟨"HangmanDinnerModel", "clashesBehind", "(I)I"⟩, 48), (⟨"HangmanDinnerModel", "openOnes", "()I"⟩, 48), (⟨"HangmanDinnerModel", "feigns", "(II)V"⟩, 48), (⟨"HangmanDinnerModel", "rests", "(II)Z"⟩, 48), (⟨"HangmanDinnerModel", "isSeen", "()Z"⟩, 48), (⟨"HangmanDinnerModel", "asks", "(III)I"⟩, 48), (⟨"HangmanDinnerModel", "ran", "(I)V"⟩, 48), (⟨"HangmanDinnerModel", "talks", "(III)I"⟩, 48), (⟨"HangmanDinnerModel", "tells", "(III)I"⟩, 48)]
theorem lw_r4 : ∀ q ∈ lw_privs_4, lw_okq q := List.forall_mem_cons.mpr ⟨lw_p48, List.forall_mem_cons.mpr ⟨lw_p49, List.forall_mem_cons.mpr ⟨lw_p50, List.forall_mem_cons.mpr ⟨lw_p51, List.forall_mem_cons.mpr ⟨lw_p52, List.forall_mem_cons.mpr ⟨lw_p53, List.forall_mem_cons.mpr ⟨lw_p54, List.forall_mem_cons.mpr ⟨lw_p55, List.forall_mem_cons.mpr ⟨lw_p56, List.forall_mem_cons.mpr ⟨lw_p57, fun _ h => absurd h List.not_mem_nil⟩⟩⟩⟩⟩⟩⟩⟩⟩⟩
def lw_privs : List (MethodName × Nat) := lw_privs_1 ++ (lw_privs_2 ++ (lw_privs_3 ++ (lw_privs_4)))
def lw_tbl : List Cond := k2_sels lw_privs ++ tables_1
theorem lw_privs_ok : ∀ q ∈ lw_privs, lw_okq q := by
  show ∀ q ∈ lw_privs_1 ++ (lw_privs_2 ++ (lw_privs_3 ++ (lw_privs_4))), lw_okq q
  exact List.forall_mem_append.mpr ⟨lw_r1, List.forall_mem_append.mpr ⟨lw_r2, List.forall_mem_append.mpr ⟨lw_r3, lw_r4⟩⟩⟩
end
section
-- names and words of this program, by wip/whole/gen1.py
def hg_C (c : Nat) : String := ["HangmanDinner$House", "HangmanDinner$Reader", "HangmanDinner$Rows", "HangmanDinner$Scene", "HangmanDinner$Talk", "HangmanDinner$Tape", "HangmanDinner$Town", "HangmanDinner", "HangmanDinnerModel"].getD c ""
def hg_N (c : Nat) : Nat := [8, 7, 3, 9, 5, 3, 2, 15, 48].getD c 0
def hg_T0 : u_T := fun k => match k with
  | 0 => ("HangmanDinner$House", "kind", "I", false)
  | 1 => ("HangmanDinner$House", "v", "I", false)
  | 2 => ("HangmanDinner$House", "base", "I", false)
  | 3 => ("HangmanDinner$House", "owes", "I", false)
  | 4 => ("HangmanDinner$House", "dined", "I", false)
  | 5 => ("HangmanDinner$House", "trials", "I", false)
  | 6 => ("HangmanDinner$House", "shut", "Z", false)
  | _ => ("HangmanDinner$House", "row", "[I", true)
def hg_t0 : Nat → FieldType := fun k => match k with
  | 0 => .int
  | 1 => .int
  | 2 => .int
  | 3 => .int
  | 4 => .int
  | 5 => .int
  | 6 => .boolean
  | _ => .array .int
def hg_T1 : u_T := fun k => match k with
  | 0 => ("HangmanDinner$Reader", "text", "[B", true)
  | 1 => ("HangmanDinner$Reader", "size", "I", false)
  | 2 => ("HangmanDinner$Reader", "at", "I", false)
  | 3 => ("HangmanDinner$Reader", "steps", "[I", true)
  | 4 => ("HangmanDinner$Reader", "written", "I", false)
  | 5 => ("HangmanDinner$Reader", "number", "I", false)
  | _ => ("HangmanDinner$Reader", "ill", "I", false)
def hg_t1 : Nat → FieldType := fun k => match k with
  | 0 => .array .byte
  | 1 => .int
  | 2 => .int
  | 3 => .array .int
  | 4 => .int
  | 5 => .int
  | _ => .int
def hg_T2 : u_T := fun k => match k with
  | 0 => ("HangmanDinner$Rows", "first", "[I", true)
  | 1 => ("HangmanDinner$Rows", "second", "[I", true)
  | _ => ("HangmanDinner$Rows", "size", "I", false)
def hg_t2 : Nat → FieldType := fun k => match k with
  | 0 => .array .int
  | 1 => .array .int
  | _ => .int
def hg_T3 : u_T := fun k => match k with
  | 0 => ("HangmanDinner$Scene", "houses", "[LHangmanDinner$House;", true)
  | 1 => ("HangmanDinner$Scene", "street", "[I", true)
  | 2 => ("HangmanDinner$Scene", "size", "I", false)
  | 3 => ("HangmanDinner$Scene", "point", "I", false)
  | 4 => ("HangmanDinner$Scene", "hungry", "I", false)
  | 5 => ("HangmanDinner$Scene", "clashes", "I", false)
  | 6 => ("HangmanDinner$Scene", "week", "I", false)
  | 7 => ("HangmanDinner$Scene", "town", "LHangmanDinner$Town;", false)
  | _ => ("HangmanDinner$Scene", "facts", "[I", true)
def hg_t3 : Nat → FieldType := fun k => match k with
  | 0 => .array (.object "HangmanDinner$House")
  | 1 => .array .int
  | 2 => .int
  | 3 => .int
  | 4 => .int
  | 5 => .int
  | 6 => .int
  | 7 => .object "HangmanDinner$Town"
  | _ => .array .int
def hg_T4 : u_T := fun k => match k with
  | 0 => ("HangmanDinner$Talk", "trace", "[I", true)
  | 1 => ("HangmanDinner$Talk", "ran", "I", false)
  | 2 => ("HangmanDinner$Talk", "house", "I", false)
  | 3 => ("HangmanDinner$Talk", "kind", "I", false)
  | _ => ("HangmanDinner$Talk", "v", "I", false)
def hg_t4 : Nat → FieldType := fun k => match k with
  | 0 => .array .int
  | 1 => .int
  | 2 => .int
  | 3 => .int
  | _ => .int
def hg_T5 : u_T := fun k => match k with
  | 0 => ("HangmanDinner$Tape", "sort", "I", false)
  | 1 => ("HangmanDinner$Tape", "size", "I", false)
  | _ => ("HangmanDinner$Tape", "items", "[J", true)
def hg_t5 : Nat → FieldType := fun k => match k with
  | 0 => .int
  | 1 => .int
  | _ => .array .long
def hg_T6 : u_T := fun k => match k with
  | 0 => ("HangmanDinner$Town", "steps", "[I", true)
  | _ => ("HangmanDinner$Town", "ill", "I", true)
def hg_t6 : Nat → FieldType := fun k => match k with
  | 0 => .array .int
  | _ => .int
def hg_T7 : u_T := fun k => match k with
  | 0 => ("HangmanDinner", "now", "LHangmanDinner$Scene;", true)
  | 1 => ("HangmanDinner", "trial", "LHangmanDinner$Scene;", true)
  | 2 => ("HangmanDinner", "imaged", "LHangmanDinner$Scene;", true)
  | 3 => ("HangmanDinner", "seen", "LHangmanDinner$Rows;", true)
  | 4 => ("HangmanDinner", "seenImaged", "LHangmanDinner$Rows;", true)
  | 5 => ("HangmanDinner", "planned", "LHangmanDinner$Rows;", true)
  | 6 => ("HangmanDinner", "plannedImaged", "LHangmanDinner$Rows;", true)
  | 7 => ("HangmanDinner", "booked", "LHangmanDinner$Rows;", true)
  | 8 => ("HangmanDinner", "bookedImaged", "LHangmanDinner$Rows;", true)
  | 9 => ("HangmanDinner", "hasImage", "Z", false)
  | 10 => ("HangmanDinner", "text", "LHangmanDinner$Reader;", true)
  | 11 => ("HangmanDinner", "towns", "I", false)
  | 12 => ("HangmanDinner", "talk", "LHangmanDinner$Talk;", true)
  | 13 => ("HangmanDinner", "tapes", "[LHangmanDinner$Tape;", true)
  | _ => ("HangmanDinner", "dinedBySet", "[I", true)
def hg_t7 : Nat → FieldType := fun k => match k with
  | 0 => .object "HangmanDinner$Scene"
  | 1 => .object "HangmanDinner$Scene"
  | 2 => .object "HangmanDinner$Scene"
  | 3 => .object "HangmanDinner$Rows"
  | 4 => .object "HangmanDinner$Rows"
  | 5 => .object "HangmanDinner$Rows"
  | 6 => .object "HangmanDinner$Rows"
  | 7 => .object "HangmanDinner$Rows"
  | 8 => .object "HangmanDinner$Rows"
  | 9 => .boolean
  | 10 => .object "HangmanDinner$Reader"
  | 11 => .int
  | 12 => .object "HangmanDinner$Talk"
  | 13 => .array (.object "HangmanDinner$Tape")
  | _ => .array .int
def hg_T8 : u_T := fun k => match k with
  | 0 => ("HangmanDinnerModel", "houses", "I", false)
  | 1 => ("HangmanDinnerModel", "kind", "[I", true)
  | 2 => ("HangmanDinnerModel", "v", "[I", true)
  | 3 => ("HangmanDinnerModel", "base", "[I", true)
  | 4 => ("HangmanDinnerModel", "owes", "[I", true)
  | 5 => ("HangmanDinnerModel", "dined", "[I", true)
  | 6 => ("HangmanDinnerModel", "trials", "[I", true)
  | 7 => ("HangmanDinnerModel", "shut", "[I", true)
  | 8 => ("HangmanDinnerModel", "rows", "[I", true)
  | 9 => ("HangmanDinnerModel", "street", "[I", true)
  | 10 => ("HangmanDinnerModel", "point", "I", false)
  | 11 => ("HangmanDinnerModel", "hungry", "I", false)
  | 12 => ("HangmanDinnerModel", "clashes", "I", false)
  | 13 => ("HangmanDinnerModel", "week", "I", false)
  | 14 => ("HangmanDinnerModel", "texted", "I", false)
  | 15 => ("HangmanDinnerModel", "text", "[I", true)
  | 16 => ("HangmanDinnerModel", "at", "I", false)
  | 17 => ("HangmanDinnerModel", "value", "I", false)
  | 18 => ("HangmanDinnerModel", "digits", "I", false)
  | 19 => ("HangmanDinnerModel", "open", "I", false)
  | 20 => ("HangmanDinnerModel", "towns", "I", false)
  | 21 => ("HangmanDinnerModel", "holds", "I", false)
  | 22 => ("HangmanDinnerModel", "clauses", "[I", true)
  | 23 => ("HangmanDinnerModel", "word", "[I", true)
  | 24 => ("HangmanDinnerModel", "number", "[I", true)
  | 25 => ("HangmanDinnerModel", "begins", "[I", true)
  | 26 => ("HangmanDinnerModel", "length", "[I", true)
  | 27 => ("HangmanDinnerModel", "code", "[I", true)
  | 28 => ("HangmanDinnerModel", "coded", "I", false)
  | 29 => ("HangmanDinnerModel", "stack", "[Z", true)
  | 30 => ("HangmanDinnerModel", "seen", "I", false)
  | 31 => ("HangmanDinnerModel", "seenIn", "[I", true)
  | 32 => ("HangmanDinnerModel", "seenOf", "[I", true)
  | 33 => ("HangmanDinnerModel", "inPlan", "I", false)
  | 34 => ("HangmanDinnerModel", "goes", "[I", true)
  | 35 => ("HangmanDinnerModel", "whose", "[I", true)
  | 36 => ("HangmanDinnerModel", "inBook", "I", false)
  | 37 => ("HangmanDinnerModel", "booked", "[I", true)
  | 38 => ("HangmanDinnerModel", "bookDined", "[I", true)
  | 39 => ("HangmanDinnerModel", "traced", "I", false)
  | 40 => ("HangmanDinnerModel", "traces", "[I", true)
  | 41 => ("HangmanDinnerModel", "imaged", "Z", false)
  | 42 => ("HangmanDinnerModel", "image", "[I", true)
  | 43 => ("HangmanDinnerModel", "ahead", "[I", true)
  | 44 => ("HangmanDinnerModel", "had", "[I", true)
  | 45 => ("HangmanDinnerModel", "tapeSort", "[I", true)
  | 46 => ("HangmanDinnerModel", "tapeSize", "[I", true)
  | _ => ("HangmanDinnerModel", "items", "[J", true)
def hg_t8 : Nat → FieldType := fun k => match k with
  | 0 => .int
  | 1 => .array .int
  | 2 => .array .int
  | 3 => .array .int
  | 4 => .array .int
  | 5 => .array .int
  | 6 => .array .int
  | 7 => .array .int
  | 8 => .array .int
  | 9 => .array .int
  | 10 => .int
  | 11 => .int
  | 12 => .int
  | 13 => .int
  | 14 => .int
  | 15 => .array .int
  | 16 => .int
  | 17 => .int
  | 18 => .int
  | 19 => .int
  | 20 => .int
  | 21 => .int
  | 22 => .array .int
  | 23 => .array .int
  | 24 => .array .int
  | 25 => .array .int
  | 26 => .array .int
  | 27 => .array .int
  | 28 => .int
  | 29 => .array .boolean
  | 30 => .int
  | 31 => .array .int
  | 32 => .array .int
  | 33 => .int
  | 34 => .array .int
  | 35 => .array .int
  | 36 => .int
  | 37 => .array .int
  | 38 => .array .int
  | 39 => .int
  | 40 => .array .int
  | 41 => .boolean
  | 42 => .array .int
  | 43 => .array .int
  | 44 => .array .int
  | 45 => .array .int
  | 46 => .array .int
  | _ => .array .long
def hg_Tb (c : Nat) : u_T := match c with
  | 0 => hg_T0
  | 1 => hg_T1
  | 2 => hg_T2
  | 3 => hg_T3
  | 4 => hg_T4
  | 5 => hg_T5
  | 6 => hg_T6
  | 7 => hg_T7
  | _ => hg_T8
def hg_tt (c : Nat) : Nat → FieldType := match c with
  | 0 => hg_t0
  | 1 => hg_t1
  | 2 => hg_t2
  | 3 => hg_t3
  | 4 => hg_t4
  | 5 => hg_t5
  | 6 => hg_t6
  | 7 => hg_t7
  | _ => hg_t8
def hg_cls : List vw_C := (List.range 9).map fun c => (hg_C c, hg_Tb c, hg_N c)
theorem hg_cls_at {c : Nat} (h : c < 9) : hg_cls[c]? = some (hg_C c, hg_Tb c, hg_N c) := by simp [hg_cls, h]
theorem hg_nm : ∀ c, c < 9 → ∀ a, a < hg_N c → ∀ b, b < hg_N c → a ≠ b → (hg_Tb c a).2.1 ≠ (hg_Tb c b).2.1 := by decide +kernel
theorem hg_tt_ok : ∀ c, c < 9 → ∀ k, k < hg_N c → parseFieldDescriptor (hg_Tb c k).2.2.1 = some (hg_tt c k) := by decide +kernel
/-- the words that stay true: every method gets them all -/
def hg_T : List Cond := lw_tbl.filter goodWord
theorem hg_in {w : Cond} (i : Nat) (h : tables_1[i]? = some w) (hg : goodWord w = true) : w ∈ hg_T := List.mem_filter.mpr ⟨List.mem_append_right _ (List.mem_of_getElem? h), hg⟩
theorem hg_inp {w : Cond} (i : Nat) (h : (k2_sels lw_privs)[i]? = some w) (hg : goodWord w = true) : w ∈ hg_T := List.mem_filter.mpr ⟨List.mem_append_left _ (List.mem_of_getElem? h), hg⟩
theorem hg_good : GoodIn hg_T hg_T := fun w h => ⟨h, good_of_word (List.mem_filter.mp h).2⟩
/-- a method: its name, its code, its locals, what it returns -/
abbrev hg_Y : Type := MethodName × ByteArray × Nat × Option FieldType
def hg_yw (Y : hg_Y) : Cond := .code Y.1 Y.2.1 Y.2.2.1 Y.2.2.2
def hg_YK (Y : hg_Y) (n : Nat) : Prop := hg_yw Y ∈ hg_T ∧ Cond.initialized Y.1.cls ∈ hg_T ∧ (Y.1.cls ≠ "java/lang/invoke/MethodHandle" ∧ Y.1.cls ≠ "java/lang/invoke/VarHandle" ∧ (parseMethodDescriptor Y.1.desc).map (fun d => d.parameters.length) = some n) ∧ Y.2.2.1 ≤ 21 ∧ plainName Y.1.cls = true
def hg_LV (own : String) (i : Nat) (Y : hg_Y) (n : Nat) : Prop := hg_YK Y n ∧ Cond.methodLink own i Y.1 ∈ hg_T ∧ Cond.instanceMethod Y.1 ∈ hg_T ∧ Cond.selects Y.1.cls Y.1 Y.1 ∈ hg_T
def hg_LS (own : String) (i : Nat) (Y : hg_Y) (n : Nat) : Prop := hg_YK Y n ∧ Cond.methodLink own i Y.1 ∈ hg_T ∧ Cond.static Y.1 ∈ hg_T
def hg_LI (own : String) (i : Nat) (Y : hg_Y) (n : Nat) : Prop := hg_YK Y n ∧ Cond.methodLink own i Y.1 ∈ hg_T ∧ Cond.instanceMethod Y.1 ∈ hg_T ∧ Y.1.name = "<init>" ∧ Y.2.2.2 = none
/-- a field of a class, by a place in the pool -/
def hg_FL (own : String) (i c j : Nat) : Prop := c < 9 ∧ j < hg_N c ∧ Cond.fieldLink own i (hg_Tb c j).1 (hg_Tb c j).2.1 (hg_Tb c j).2.2.1 ∈ hg_T
/-- a class that is made, by a place in the pool -/
def hg_CN (own : String) (i c : Nat) : Prop := c < 9 ∧ Cond.classLink own i (hg_C c) ∈ hg_T ∧ Cond.instantiable (hg_C c) (hg_N c) ∈ hg_T ∧ Cond.initialized (hg_C c) ∈ hg_T
abbrev Y_H_init : hg_Y := (⟨"HangmanDinner$House", "<init>", "()V"⟩, prog_2_method_1_code, 1, none)
abbrev Y_H_begin : hg_Y := (⟨"HangmanDinner$House", "begin", "(III)V"⟩, prog_2_method_2_code, 5, none)
abbrev Y_H_become : hg_Y := (⟨"HangmanDinner$House", "become", "(LHangmanDinner$House;)V"⟩, prog_2_method_3_code, 2, none)
abbrev Y_R_init : hg_Y := (⟨"HangmanDinner$Reader", "<init>", "()V"⟩, prog_3_method_1_code, 1, none)
abbrev Y_R_add : hg_Y := (⟨"HangmanDinner$Reader", "add", "(I)I"⟩, prog_3_method_2_code, 2, (some FieldType.int))
abbrev Y_R_place : hg_Y := (⟨"HangmanDinner$Reader", "place", "()I"⟩, prog_3_method_3_code, 1, (some FieldType.int))
abbrev Y_R_understand : hg_Y := (⟨"HangmanDinner$Reader", "understand", "()LHangmanDinner$Town;"⟩, prog_3_method_4_code, 3, (some (FieldType.object "HangmanDinner$Town")))
abbrev Y_R_clause : hg_Y := (⟨"HangmanDinner$Reader", "clause", "()Z"⟩, prog_3_method_5_code, 4, (some FieldType.boolean))
abbrev Y_R_either : hg_Y := (⟨"HangmanDinner$Reader", "either", "(I)Z"⟩, prog_3_method_6_code, 4, (some FieldType.boolean))
abbrev Y_R_both : hg_Y := (⟨"HangmanDinner$Reader", "both", "(I)Z"⟩, prog_3_method_7_code, 4, (some FieldType.boolean))
abbrev Y_R_factor : hg_Y := (⟨"HangmanDinner$Reader", "factor", "(I)Z"⟩, prog_3_method_8_code, 4, (some FieldType.boolean))
abbrev Y_R_test : hg_Y := (⟨"HangmanDinner$Reader", "test", "()Z"⟩, prog_3_method_9_code, 3, (some FieldType.boolean))
abbrev Y_R_number : hg_Y := (⟨"HangmanDinner$Reader", "number", "()Z"⟩, prog_3_method_10_code, 3, (some FieldType.boolean))
abbrev Y_R_word : hg_Y := (⟨"HangmanDinner$Reader", "word", "(Ljava/lang/String;)Z"⟩, prog_3_method_11_code, 3, (some FieldType.boolean))
abbrev Y_R_sign : hg_Y := (⟨"HangmanDinner$Reader", "sign", "(C)Z"⟩, prog_3_method_12_code, 2, (some FieldType.boolean))
abbrev Y_R_write : hg_Y := (⟨"HangmanDinner$Reader", "write", "(III)V"⟩, prog_3_method_13_code, 4, none)
abbrev Y_W_init : hg_Y := (⟨"HangmanDinner$Rows", "<init>", "(I)V"⟩, prog_4_method_1_code, 2, none)
abbrev Y_W_add : hg_Y := (⟨"HangmanDinner$Rows", "add", "(II)I"⟩, prog_4_method_2_code, 3, (some FieldType.int))
abbrev Y_W_empty : hg_Y := (⟨"HangmanDinner$Rows", "empty", "()I"⟩, prog_4_method_3_code, 1, (some FieldType.int))
abbrev Y_W_become : hg_Y := (⟨"HangmanDinner$Rows", "become", "(LHangmanDinner$Rows;)V"⟩, prog_4_method_4_code, 2, none)
abbrev Y_S_init : hg_Y := (⟨"HangmanDinner$Scene", "<init>", "(LHangmanDinner$Town;)V"⟩, prog_5_method_1_code, 3, none)
abbrev Y_S_become : hg_Y := (⟨"HangmanDinner$Scene", "become", "(LHangmanDinner$Scene;)V"⟩, prog_5_method_2_code, 3, none)
abbrev Y_S_has : hg_Y := (⟨"HangmanDinner$Scene", "has", "(I)Z"⟩, prog_5_method_3_code, 2, (some FieldType.boolean))
abbrev Y_S_at : hg_Y := (⟨"HangmanDinner$Scene", "at", "(I)LHangmanDinner$House;"⟩, prog_5_method_4_code, 2, (some (FieldType.object "HangmanDinner$House")))
abbrev Y_S_add : hg_Y := (⟨"HangmanDinner$Scene", "add", "(III)I"⟩, prog_5_method_5_code, 4, (some FieldType.int))
abbrev Y_S_placeOf : hg_Y := (⟨"HangmanDinner$Scene", "placeOf", "(I)I"⟩, prog_5_method_6_code, 3, (some FieldType.int))
abbrev Y_S_change : hg_Y := (⟨"HangmanDinner$Scene", "change", "(II)V"⟩, prog_5_method_7_code, 5, none)
abbrev Y_S_dread : hg_Y := (⟨"HangmanDinner$Scene", "dread", "(I)I"⟩, prog_5_method_8_code, 6, (some FieldType.int))
abbrev Y_S_isIll : hg_Y := (⟨"HangmanDinner$Scene", "isIll", "(I)Z"⟩, prog_5_method_9_code, 2, (some FieldType.boolean))
abbrev Y_S_host : hg_Y := (⟨"HangmanDinner$Scene", "host", "()I"⟩, prog_5_method_10_code, 2, (some FieldType.int))
abbrev Y_S_hostPlace : hg_Y := (⟨"HangmanDinner$Scene", "hostPlace", "()I"⟩, prog_5_method_11_code, 3, (some FieldType.int))
abbrev Y_S_behindPoint : hg_Y := (⟨"HangmanDinner$Scene", "behindPoint", "(I)I"⟩, prog_5_method_12_code, 3, (some FieldType.int))
abbrev Y_S_thursdays : hg_Y := (⟨"HangmanDinner$Scene", "thursdays", "(I)V"⟩, prog_5_method_13_code, 3, none)
abbrev Y_S_thursday : hg_Y := (⟨"HangmanDinner$Scene", "thursday", "()I"⟩, prog_5_method_14_code, 3, (some FieldType.int))
abbrev Y_S_dineAt : hg_Y := (⟨"HangmanDinner$Scene", "dineAt", "(I)V"⟩, prog_5_method_15_code, 4, none)
abbrev Y_T_init : hg_Y := (⟨"HangmanDinner$Talk", "<init>", "()V"⟩, prog_6_method_1_code, 1, none)
abbrev Y_T_isUnder : hg_Y := (⟨"HangmanDinner$Talk", "isUnder", "(II)Z"⟩, prog_6_method_2_code, 4, (some FieldType.boolean))
abbrev Y_T_forget : hg_Y := (⟨"HangmanDinner$Talk", "forget", "()V"⟩, prog_6_method_3_code, 1, none)
abbrev Y_T_kept : hg_Y := (⟨"HangmanDinner$Talk", "kept", "()I"⟩, prog_6_method_4_code, 1, (some FieldType.int))
abbrev Y_T_start : hg_Y := (⟨"HangmanDinner$Talk", "start", "(ILHangmanDinner$House;II)I"⟩, prog_6_method_5_code, 5, (some FieldType.int))
abbrev Y_T_find : hg_Y := (⟨"HangmanDinner$Talk", "find", "(IIII)I"⟩, prog_6_method_6_code, 8, (some FieldType.int))
abbrev Y_T_run : hg_Y := (⟨"HangmanDinner$Talk", "run", "(IIII)I"⟩, prog_6_method_7_code, 7, (some FieldType.int))
abbrev Y_P_init : hg_Y := (⟨"HangmanDinner$Tape", "<init>", "()V"⟩, prog_7_method_1_code, 1, none)
abbrev Y_P_hold : hg_Y := (⟨"HangmanDinner$Tape", "hold", "(II)V"⟩, prog_7_method_2_code, 4, none)
abbrev Y_P_has : hg_Y := (⟨"HangmanDinner$Tape", "has", "(I)Z"⟩, prog_7_method_3_code, 2, (some FieldType.boolean))
abbrev Y_P_hasAll : hg_Y := (⟨"HangmanDinner$Tape", "hasAll", "(II)Z"⟩, prog_7_method_4_code, 3, (some FieldType.boolean))
abbrev Y_P_cut : hg_Y := (⟨"HangmanDinner$Tape", "cut", "(J)J"⟩, prog_7_method_5_code, 3, (some FieldType.long))
abbrev Y_O_init : hg_Y := (⟨"HangmanDinner$Town", "<init>", "([III)V"⟩, prog_8_method_1_code, 4, none)
abbrev Y_O_fearOf : hg_Y := (⟨"HangmanDinner$Town", "fearOf", "([I)I"⟩, prog_8_method_2_code, 10, (some FieldType.int))
abbrev Y_D_init : hg_Y := (⟨"HangmanDinner", "<init>", "()V"⟩, prog_1_method_1_code, 3, none)
abbrev Y_D_house : hg_Y := (⟨"HangmanDinner", "house", "(III)I"⟩, prog_1_method_2_code, 4, (some FieldType.int))
abbrev Y_D_of : hg_Y := (⟨"HangmanDinner", "of", "(II)I"⟩, prog_1_method_3_code, 4, (some FieldType.int))
abbrev Y_D_set : hg_Y := (⟨"HangmanDinner", "set", "(III)I"⟩, prog_1_method_4_code, 6, (some FieldType.int))
abbrev Y_D_shut : hg_Y := (⟨"HangmanDinner", "shut", "(IZ)I"⟩, prog_1_method_5_code, 5, (some FieldType.int))
abbrev Y_D_swap : hg_Y := (⟨"HangmanDinner", "swap", "(II)I"⟩, prog_1_method_6_code, 3, (some FieldType.int))
abbrev Y_D_row : hg_Y := (⟨"HangmanDinner", "row", "(III)I"⟩, prog_1_method_7_code, 6, (some FieldType.int))
abbrev Y_D_feed : hg_Y := (⟨"HangmanDinner", "feed", "(I)I"⟩, prog_1_method_8_code, 2, (some FieldType.int))
abbrev Y_D_town : hg_Y := (⟨"HangmanDinner", "town", "()I"⟩, prog_1_method_9_code, 2, (some FieldType.int))
abbrev Y_D_told : hg_Y := (⟨"HangmanDinner", "told", "(I)I"⟩, prog_1_method_10_code, 2, (some FieldType.int))
abbrev Y_D_illOnes : hg_Y := (⟨"HangmanDinner", "illOnes", "()I"⟩, prog_1_method_11_code, 3, (some FieldType.int))
abbrev Y_D_pass : hg_Y := (⟨"HangmanDinner", "pass", "(I)I"⟩, prog_1_method_12_code, 2, (some FieldType.int))
abbrev Y_D_on : hg_Y := (⟨"HangmanDinner", "on", "(II)I"⟩, prog_1_method_13_code, 5, (some FieldType.int))
abbrev Y_D_comes : hg_Y := (⟨"HangmanDinner", "comes", "(I)I"⟩, prog_1_method_14_code, 3, (some FieldType.int))
abbrev Y_D_doors : hg_Y := (⟨"HangmanDinner", "doors", "(I)I"⟩, prog_1_method_15_code, 6, (some FieldType.int))
abbrev Y_D_feign : hg_Y := (⟨"HangmanDinner", "feign", "(II)I"⟩, prog_1_method_16_code, 7, (some FieldType.int))
abbrev Y_D_openOnes : hg_Y := (⟨"HangmanDinner", "openOnes", "()I"⟩, prog_1_method_17_code, 3, (some FieldType.int))
abbrev Y_D_dineBySet : hg_Y := (⟨"HangmanDinner", "dineBySet", "(II)V"⟩, prog_1_method_18_code, 4, none)
abbrev Y_D_rests : hg_Y := (⟨"HangmanDinner", "rests", "(II)Z"⟩, prog_1_method_19_code, 5, (some FieldType.boolean))
abbrev Y_D_see : hg_Y := (⟨"HangmanDinner", "see", "(II)I"⟩, prog_1_method_20_code, 3, (some FieldType.int))
abbrev Y_D_can : hg_Y := (⟨"HangmanDinner", "can", "(III)I"⟩, prog_1_method_21_code, 8, (some FieldType.int))
abbrev Y_D_allSeenGoesSo : hg_Y := (⟨"HangmanDinner", "allSeenGoesSo", "()Z"⟩, prog_1_method_22_code, 5, (some FieldType.boolean))
abbrev Y_D_odds : hg_Y := (⟨"HangmanDinner", "odds", "(II)J"⟩, prog_1_method_23_code, 5, (some FieldType.long))
abbrev Y_D_mean : hg_Y := (⟨"HangmanDinner", "mean", "(II)J"⟩, prog_1_method_24_code, 5, (some FieldType.long))
abbrev Y_D_lowest : hg_Y := (⟨"HangmanDinner", "lowest", "(III)J"⟩, prog_1_method_25_code, 4, (some FieldType.long))
abbrev Y_D_divisor : hg_Y := (⟨"HangmanDinner", "divisor", "(II)I"⟩, prog_1_method_26_code, 6, (some FieldType.int))
abbrev Y_D_plan : hg_Y := (⟨"HangmanDinner", "plan", "(II)I"⟩, prog_1_method_27_code, 3, (some FieldType.int))
abbrev Y_D_ends : hg_Y := (⟨"HangmanDinner", "ends", "(I)I"⟩, prog_1_method_28_code, 3, (some FieldType.int))
abbrev Y_D_goAsPlanned : hg_Y := (⟨"HangmanDinner", "goAsPlanned", "(II)V"⟩, prog_1_method_29_code, 4, none)
abbrev Y_D_book : hg_Y := (⟨"HangmanDinner", "book", "(II)I"⟩, prog_1_method_30_code, 3, (some FieldType.int))
abbrev Y_D_looked : hg_Y := (⟨"HangmanDinner", "looked", "()I"⟩, prog_1_method_31_code, 3, (some FieldType.int))
abbrev Y_D_judge : hg_Y := (⟨"HangmanDinner", "judge", "(II)I"⟩, prog_1_method_32_code, 5, (some FieldType.int))
abbrev Y_D_image : hg_Y := (⟨"HangmanDinner", "image", "()I"⟩, prog_1_method_33_code, 1, (some FieldType.int))
abbrev Y_D_undo : hg_Y := (⟨"HangmanDinner", "undo", "()I"⟩, prog_1_method_34_code, 1, (some FieldType.int))
abbrev Y_D_act : hg_Y := (⟨"HangmanDinner", "act", "(III)I"⟩, prog_1_method_35_code, 5, (some FieldType.int))
abbrev Y_D_trace : hg_Y := (⟨"HangmanDinner", "trace", "(I)I"⟩, prog_1_method_36_code, 2, (some FieldType.int))
abbrev Y_D_taken : hg_Y := (⟨"HangmanDinner", "taken", "(II)I"⟩, prog_1_method_37_code, 4, (some FieldType.int))
abbrev Y_D_count : hg_Y := (⟨"HangmanDinner", "count", "(I)I"⟩, prog_1_method_38_code, 2, (some FieldType.int))
abbrev Y_D_tape : hg_Y := (⟨"HangmanDinner", "tape", "(III)I"⟩, prog_1_method_39_code, 5, (some FieldType.int))
abbrev Y_D_item : hg_Y := (⟨"HangmanDinner", "item", "(IIJ)I"⟩, prog_1_method_40_code, 6, (some FieldType.int))
abbrev Y_D_read : hg_Y := (⟨"HangmanDinner", "read", "(II)J"⟩, prog_1_method_41_code, 4, (some FieldType.long))
abbrev Y_D_shift : hg_Y := (⟨"HangmanDinner", "shift", "(IIIII)I"⟩, prog_1_method_42_code, 8, (some FieldType.int))
abbrev Y_D_tapeAt : hg_Y := (⟨"HangmanDinner", "tapeAt", "(I)LHangmanDinner$Tape;"⟩, prog_1_method_43_code, 2, (some (FieldType.object "HangmanDinner$Tape")))
abbrev Y_D_within : hg_Y := (⟨"HangmanDinner", "within", "(II)Z"⟩, prog_1_method_44_code, 2, (some FieldType.boolean))
abbrev Y_D_orNotThere : hg_Y := (⟨"HangmanDinner", "orNotThere", "(I)I"⟩, prog_1_method_45_code, 1, (some FieldType.int))
abbrev Y_M_init : hg_Y := (⟨"HangmanDinnerModel", "<init>", "()V"⟩, prog_10_method_1_code, 2, none)
abbrev Y_M_within : hg_Y := (⟨"HangmanDinnerModel", "within", "(III)Z"⟩, prog_10_method_2_code, 3, (some FieldType.boolean))
abbrev Y_M_isOne : hg_Y := (⟨"HangmanDinnerModel", "isOne", "(I)Z"⟩, prog_10_method_3_code, 2, (some FieldType.boolean))
abbrev Y_M_has : hg_Y := (⟨"HangmanDinnerModel", "has", "(II)Z"⟩, prog_10_method_4_code, 2, (some FieldType.boolean))
abbrev Y_M_house : hg_Y := (⟨"HangmanDinnerModel", "house", "(III)I"⟩, prog_10_method_5_code, 5, (some FieldType.int))
abbrev Y_M_placeOf : hg_Y := (⟨"HangmanDinnerModel", "placeOf", "(I)I"⟩, prog_10_method_6_code, 3, (some FieldType.int))
abbrev Y_M_of : hg_Y := (⟨"HangmanDinnerModel", "of", "(II)I"⟩, prog_10_method_7_code, 3, (some FieldType.int))
abbrev Y_M_set : hg_Y := (⟨"HangmanDinnerModel", "set", "(III)I"⟩, prog_10_method_8_code, 5, (some FieldType.int))
abbrev Y_M_shut : hg_Y := (⟨"HangmanDinnerModel", "shut", "(IZ)I"⟩, prog_10_method_9_code, 4, (some FieldType.int))
abbrev Y_M_swaps : hg_Y := (⟨"HangmanDinnerModel", "swaps", "(II)V"⟩, prog_10_method_10_code, 5, none)
abbrev Y_M_swap : hg_Y := (⟨"HangmanDinnerModel", "swap", "(II)I"⟩, prog_10_method_11_code, 3, (some FieldType.int))
abbrev Y_M_row : hg_Y := (⟨"HangmanDinnerModel", "row", "(III)I"⟩, prog_10_method_12_code, 5, (some FieldType.int))
abbrev Y_M_feed : hg_Y := (⟨"HangmanDinnerModel", "feed", "(I)I"⟩, prog_10_method_13_code, 2, (some FieldType.int))
abbrev Y_M_is : hg_Y := (⟨"HangmanDinnerModel", "is", "(I)Z"⟩, prog_10_method_14_code, 2, (some FieldType.boolean))
abbrev Y_M_isDigit : hg_Y := (⟨"HangmanDinnerModel", "isDigit", "()Z"⟩, prog_10_method_15_code, 1, (some FieldType.boolean))
abbrev Y_M_isNumber : hg_Y := (⟨"HangmanDinnerModel", "isNumber", "()Z"⟩, prog_10_method_16_code, 1, (some FieldType.boolean))
abbrev Y_M_isAll : hg_Y := (⟨"HangmanDinnerModel", "isAll", "(Ljava/lang/String;)Z"⟩, prog_10_method_17_code, 3, (some FieldType.boolean))
abbrev Y_M_codes : hg_Y := (⟨"HangmanDinnerModel", "codes", "(I)Z"⟩, prog_10_method_18_code, 2, (some FieldType.boolean))
abbrev Y_M_isTest : hg_Y := (⟨"HangmanDinnerModel", "isTest", "()Z"⟩, prog_10_method_19_code, 3, (some FieldType.boolean))
abbrev Y_M_isOpened : hg_Y := (⟨"HangmanDinnerModel", "isOpened", "(I)Z"⟩, prog_10_method_20_code, 2, (some FieldType.boolean))
abbrev Y_M_isF : hg_Y := (⟨"HangmanDinnerModel", "isF", "()Z"⟩, prog_10_method_21_code, 2, (some FieldType.boolean))
abbrev Y_M_isT : hg_Y := (⟨"HangmanDinnerModel", "isT", "()Z"⟩, prog_10_method_22_code, 1, (some FieldType.boolean))
abbrev Y_M_isE : hg_Y := (⟨"HangmanDinnerModel", "isE", "()Z"⟩, prog_10_method_23_code, 1, (some FieldType.boolean))
abbrev Y_M_isClause : hg_Y := (⟨"HangmanDinnerModel", "isClause", "(I)Z"⟩, prog_10_method_24_code, 4, (some FieldType.boolean))
abbrev Y_M_town : hg_Y := (⟨"HangmanDinnerModel", "town", "()I"⟩, prog_10_method_25_code, 5, (some FieldType.int))
abbrev Y_M_letterOf : hg_Y := (⟨"HangmanDinnerModel", "letterOf", "(II)I"⟩, prog_10_method_26_code, 3, (some FieldType.int))
abbrev Y_M_isTrue : hg_Y := (⟨"HangmanDinnerModel", "isTrue", "(II)Z"⟩, prog_10_method_27_code, 9, (some FieldType.boolean))
abbrev Y_M_sum : hg_Y := (⟨"HangmanDinnerModel", "sum", "(I)I"⟩, prog_10_method_28_code, 5, (some FieldType.int))
abbrev Y_M_illFrom : hg_Y := (⟨"HangmanDinnerModel", "illFrom", "()I"⟩, prog_10_method_29_code, 3, (some FieldType.int))
abbrev Y_M_dread : hg_Y := (⟨"HangmanDinnerModel", "dread", "(I)I"⟩, prog_10_method_30_code, 5, (some FieldType.int))
abbrev Y_M_isIll : hg_Y := (⟨"HangmanDinnerModel", "isIll", "(I)Z"⟩, prog_10_method_31_code, 2, (some FieldType.boolean))
abbrev Y_M_ills : hg_Y := (⟨"HangmanDinnerModel", "ills", "()I"⟩, prog_10_method_32_code, 3, (some FieldType.int))
abbrev Y_M_placeBy : hg_Y := (⟨"HangmanDinnerModel", "placeBy", "(I)I"⟩, prog_10_method_33_code, 4, (some FieldType.int))
abbrev Y_M_host : hg_Y := (⟨"HangmanDinnerModel", "host", "()I"⟩, prog_10_method_34_code, 2, (some FieldType.int))
abbrev Y_M_held : hg_Y := (⟨"HangmanDinnerModel", "held", "(I)I"⟩, prog_10_method_35_code, 1, (some FieldType.int))
abbrev Y_M_goesThursday : hg_Y := (⟨"HangmanDinnerModel", "goesThursday", "()V"⟩, prog_10_method_36_code, 3, none)
abbrev Y_M_told : hg_Y := (⟨"HangmanDinnerModel", "told", "(I)I"⟩, prog_10_method_37_code, 2, (some FieldType.int))
abbrev Y_M_pass : hg_Y := (⟨"HangmanDinnerModel", "pass", "(I)I"⟩, prog_10_method_38_code, 4, (some FieldType.int))
abbrev Y_M_on : hg_Y := (⟨"HangmanDinnerModel", "on", "(II)I"⟩, prog_10_method_39_code, 4, (some FieldType.int))
abbrev Y_M_comesTo : hg_Y := (⟨"HangmanDinnerModel", "comesTo", "(I)I"⟩, prog_10_method_40_code, 4, (some FieldType.int))
abbrev Y_M_clashesBehind : hg_Y := (⟨"HangmanDinnerModel", "clashesBehind", "(I)I"⟩, prog_10_method_41_code, 3, (some FieldType.int))
abbrev Y_M_doors : hg_Y := (⟨"HangmanDinnerModel", "doors", "(I)I"⟩, prog_10_method_42_code, 7, (some FieldType.int))
abbrev Y_M_feigns : hg_Y := (⟨"HangmanDinnerModel", "feigns", "(II)V"⟩, prog_10_method_43_code, 5, none)
abbrev Y_M_openOnes : hg_Y := (⟨"HangmanDinnerModel", "openOnes", "()I"⟩, prog_10_method_44_code, 3, (some FieldType.int))
abbrev Y_M_rests : hg_Y := (⟨"HangmanDinnerModel", "rests", "(II)Z"⟩, prog_10_method_45_code, 4, (some FieldType.boolean))
abbrev Y_M_feign : hg_Y := (⟨"HangmanDinnerModel", "feign", "(II)I"⟩, prog_10_method_46_code, 7, (some FieldType.int))
abbrev Y_M_see : hg_Y := (⟨"HangmanDinnerModel", "see", "(II)I"⟩, prog_10_method_47_code, 3, (some FieldType.int))
abbrev Y_M_isSeen : hg_Y := (⟨"HangmanDinnerModel", "isSeen", "()Z"⟩, prog_10_method_48_code, 4, (some FieldType.boolean))
abbrev Y_M_can : hg_Y := (⟨"HangmanDinnerModel", "can", "(III)I"⟩, prog_10_method_49_code, 7, (some FieldType.int))
abbrev Y_M_part : hg_Y := (⟨"HangmanDinnerModel", "part", "(JJI)J"⟩, prog_10_method_50_code, 11, (some FieldType.long))
abbrev Y_M_odds : hg_Y := (⟨"HangmanDinnerModel", "odds", "(II)J"⟩, prog_10_method_51_code, 6, (some FieldType.long))
abbrev Y_M_mean : hg_Y := (⟨"HangmanDinnerModel", "mean", "(II)J"⟩, prog_10_method_52_code, 5, (some FieldType.long))
abbrev Y_M_plan : hg_Y := (⟨"HangmanDinnerModel", "plan", "(II)I"⟩, prog_10_method_53_code, 3, (some FieldType.int))
abbrev Y_M_ends : hg_Y := (⟨"HangmanDinnerModel", "ends", "(I)I"⟩, prog_10_method_54_code, 4, (some FieldType.int))
abbrev Y_M_book : hg_Y := (⟨"HangmanDinnerModel", "book", "(II)I"⟩, prog_10_method_55_code, 3, (some FieldType.int))
abbrev Y_M_looked : hg_Y := (⟨"HangmanDinnerModel", "looked", "()I"⟩, prog_10_method_56_code, 2, (some FieldType.int))
abbrev Y_M_judge : hg_Y := (⟨"HangmanDinnerModel", "judge", "(II)I"⟩, prog_10_method_57_code, 4, (some FieldType.int))
abbrev Y_M_keep : hg_Y := (⟨"HangmanDinnerModel", "keep", "([I)V"⟩, prog_10_method_58_code, 3, none)
abbrev Y_M_again : hg_Y := (⟨"HangmanDinnerModel", "again", "([I)V"⟩, prog_10_method_59_code, 3, none)
abbrev Y_M_image : hg_Y := (⟨"HangmanDinnerModel", "image", "()I"⟩, prog_10_method_60_code, 1, (some FieldType.int))
abbrev Y_M_undo : hg_Y := (⟨"HangmanDinnerModel", "undo", "()I"⟩, prog_10_method_61_code, 1, (some FieldType.int))
abbrev Y_M_ran : hg_Y := (⟨"HangmanDinnerModel", "ran", "(I)V"⟩, prog_10_method_62_code, 2, none)
abbrev Y_M_above : hg_Y := (⟨"HangmanDinnerModel", "above", "(I)I"⟩, prog_10_method_63_code, 1, (some FieldType.int))
abbrev Y_M_asks : hg_Y := (⟨"HangmanDinnerModel", "asks", "(III)I"⟩, prog_10_method_64_code, 4, (some FieldType.int))
abbrev Y_M_talks : hg_Y := (⟨"HangmanDinnerModel", "talks", "(III)I"⟩, prog_10_method_65_code, 5, (some FieldType.int))
abbrev Y_M_tells : hg_Y := (⟨"HangmanDinnerModel", "tells", "(III)I"⟩, prog_10_method_66_code, 5, (some FieldType.int))
abbrev Y_M_act : hg_Y := (⟨"HangmanDinnerModel", "act", "(III)I"⟩, prog_10_method_67_code, 5, (some FieldType.int))
abbrev Y_M_trace : hg_Y := (⟨"HangmanDinnerModel", "trace", "(I)I"⟩, prog_10_method_68_code, 2, (some FieldType.int))
abbrev Y_M_taken : hg_Y := (⟨"HangmanDinnerModel", "taken", "(II)I"⟩, prog_10_method_69_code, 4, (some FieldType.int))
abbrev Y_M_count : hg_Y := (⟨"HangmanDinnerModel", "count", "(I)I"⟩, prog_10_method_70_code, 2, (some FieldType.int))
abbrev Y_M_isTape : hg_Y := (⟨"HangmanDinnerModel", "isTape", "(I)Z"⟩, prog_10_method_71_code, 1, (some FieldType.boolean))
abbrev Y_M_tape : hg_Y := (⟨"HangmanDinnerModel", "tape", "(III)I"⟩, prog_10_method_72_code, 5, (some FieldType.int))
abbrev Y_M_kept : hg_Y := (⟨"HangmanDinnerModel", "kept", "(IJ)J"⟩, prog_10_method_73_code, 3, (some FieldType.long))
abbrev Y_M_item : hg_Y := (⟨"HangmanDinnerModel", "item", "(IIJ)I"⟩, prog_10_method_74_code, 5, (some FieldType.int))
abbrev Y_M_read : hg_Y := (⟨"HangmanDinnerModel", "read", "(II)J"⟩, prog_10_method_75_code, 3, (some FieldType.long))
abbrev Y_M_shift : hg_Y := (⟨"HangmanDinnerModel", "shift", "(IIIII)I"⟩, prog_10_method_76_code, 7, (some FieldType.int))
abbrev Y_JS_length : hg_Y := (⟨"java/lang/String", "length", "()I"⟩, prog_13_method_54_code, 1, (some FieldType.int))
abbrev Y_JS_charAt : hg_Y := (⟨"java/lang/String", "charAt", "(I)C"⟩, prog_13_method_56_code, 2, (some FieldType.char))
abbrev Y_JS_indexOf_0 : hg_Y := (⟨"java/lang/String", "indexOf", "(I)I"⟩, prog_13_method_79_code, 2, (some FieldType.int))
abbrev Y_JS_indexOf_1 : hg_Y := (⟨"java/lang/String", "indexOf", "(II)I"⟩, prog_13_method_80_code, 3, (some FieldType.int))
abbrev Y_JS_coder : hg_Y := (⟨"java/lang/String", "coder", "()B"⟩, prog_13_method_152_code, 1, (some FieldType.byte))
abbrev Y_JS_isLatin1 : hg_Y := (⟨"java/lang/String", "isLatin1", "()Z"⟩, prog_13_method_154_code, 1, (some FieldType.boolean))
abbrev Y_JS_checkIndex : hg_Y := (⟨"java/lang/String", "checkIndex", "(II)V"⟩, prog_13_method_155_code, 2, none)
abbrev Y_JL_charAt : hg_Y := (⟨"java/lang/StringLatin1", "charAt", "([BI)C"⟩, prog_14_method_2_code, 2, (some FieldType.char))
abbrev Y_JL_canEncode : hg_Y := (⟨"java/lang/StringLatin1", "canEncode", "(I)Z"⟩, prog_14_method_4_code, 1, (some FieldType.boolean))
abbrev Y_JL_indexOf : hg_Y := (⟨"java/lang/StringLatin1", "indexOf", "([BIII)I"⟩, prog_14_method_22_code, 4, (some FieldType.int))
abbrev Y_JL_indexOfChar : hg_Y := (⟨"java/lang/StringLatin1", "indexOfChar", "([BIII)I"⟩, prog_14_method_23_code, 6, (some FieldType.int))
abbrev Y_JP_checkIndex : hg_Y := (⟨"jdk/internal/util/Preconditions", "checkIndex", "(IILjava/util/function/BiFunction;)I"⟩, prog_17_method_11_code, 3, (some FieldType.int))
abbrev Y_L_law : hg_Y := (⟨"HangmanDinnerLaw", "law", "([I)Z"⟩, code, 4, (some FieldType.boolean))
theorem k_H_init : hg_YK Y_H_init 0 := ⟨hg_in 130 (by decide +kernel) rfl, hg_in 8 (by decide +kernel) rfl, ⟨by decide +kernel, by decide +kernel, by decide +kernel⟩, by decide +kernel, by decide +kernel⟩
theorem k_H_begin : hg_YK Y_H_begin 3 := ⟨hg_in 289 (by decide +kernel) rfl, hg_in 8 (by decide +kernel) rfl, ⟨by decide +kernel, by decide +kernel, by decide +kernel⟩, by decide +kernel, by decide +kernel⟩
theorem k_H_become : hg_YK Y_H_become 1 := ⟨hg_in 329 (by decide +kernel) rfl, hg_in 8 (by decide +kernel) rfl, ⟨by decide +kernel, by decide +kernel, by decide +kernel⟩, by decide +kernel, by decide +kernel⟩
theorem k_R_init : hg_YK Y_R_init 0 := ⟨hg_in 49 (by decide +kernel) rfl, hg_in 3 (by decide +kernel) rfl, ⟨by decide +kernel, by decide +kernel, by decide +kernel⟩, by decide +kernel, by decide +kernel⟩
theorem k_R_add : hg_YK Y_R_add 1 := ⟨hg_in 381 (by decide +kernel) rfl, hg_in 3 (by decide +kernel) rfl, ⟨by decide +kernel, by decide +kernel, by decide +kernel⟩, by decide +kernel, by decide +kernel⟩
theorem k_R_place : hg_YK Y_R_place 0 := ⟨hg_in 541 (by decide +kernel) rfl, hg_in 3 (by decide +kernel) rfl, ⟨by decide +kernel, by decide +kernel, by decide +kernel⟩, by decide +kernel, by decide +kernel⟩
theorem k_R_understand : hg_YK Y_R_understand 0 := ⟨hg_in 389 (by decide +kernel) rfl, hg_in 3 (by decide +kernel) rfl, ⟨by decide +kernel, by decide +kernel, by decide +kernel⟩, by decide +kernel, by decide +kernel⟩
theorem k_R_clause : hg_YK Y_R_clause 0 := ⟨hg_in 393 (by decide +kernel) rfl, hg_in 3 (by decide +kernel) rfl, ⟨by decide +kernel, by decide +kernel, by decide +kernel⟩, by decide +kernel, by decide +kernel⟩
theorem k_R_either : hg_YK Y_R_either 1 := ⟨hg_in 460 (by decide +kernel) rfl, hg_in 3 (by decide +kernel) rfl, ⟨by decide +kernel, by decide +kernel, by decide +kernel⟩, by decide +kernel, by decide +kernel⟩
theorem k_R_both : hg_YK Y_R_both 1 := ⟨hg_in 464 (by decide +kernel) rfl, hg_in 3 (by decide +kernel) rfl, ⟨by decide +kernel, by decide +kernel, by decide +kernel⟩, by decide +kernel, by decide +kernel⟩
theorem k_R_factor : hg_YK Y_R_factor 1 := ⟨hg_in 468 (by decide +kernel) rfl, hg_in 3 (by decide +kernel) rfl, ⟨by decide +kernel, by decide +kernel, by decide +kernel⟩, by decide +kernel, by decide +kernel⟩
theorem k_R_test : hg_YK Y_R_test 0 := ⟨hg_in 472 (by decide +kernel) rfl, hg_in 3 (by decide +kernel) rfl, ⟨by decide +kernel, by decide +kernel, by decide +kernel⟩, by decide +kernel, by decide +kernel⟩
theorem k_R_number : hg_YK Y_R_number 0 := ⟨hg_in 454 (by decide +kernel) rfl, hg_in 3 (by decide +kernel) rfl, ⟨by decide +kernel, by decide +kernel, by decide +kernel⟩, by decide +kernel, by decide +kernel⟩
theorem k_R_word : hg_YK Y_R_word 1 := ⟨hg_in 398 (by decide +kernel) rfl, hg_in 3 (by decide +kernel) rfl, ⟨by decide +kernel, by decide +kernel, by decide +kernel⟩, by decide +kernel, by decide +kernel⟩
theorem k_R_sign : hg_YK Y_R_sign 1 := ⟨hg_in 450 (by decide +kernel) rfl, hg_in 3 (by decide +kernel) rfl, ⟨by decide +kernel, by decide +kernel, by decide +kernel⟩, by decide +kernel, by decide +kernel⟩
theorem k_R_write : hg_YK Y_R_write 3 := ⟨hg_in 535 (by decide +kernel) rfl, hg_in 3 (by decide +kernel) rfl, ⟨by decide +kernel, by decide +kernel, by decide +kernel⟩, by decide +kernel, by decide +kernel⟩
theorem k_W_init : hg_YK Y_W_init 1 := ⟨hg_in 29 (by decide +kernel) rfl, hg_in 2 (by decide +kernel) rfl, ⟨by decide +kernel, by decide +kernel, by decide +kernel⟩, by decide +kernel, by decide +kernel⟩
theorem k_W_add : hg_YK Y_W_add 2 := ⟨hg_in 601 (by decide +kernel) rfl, hg_in 2 (by decide +kernel) rfl, ⟨by decide +kernel, by decide +kernel, by decide +kernel⟩, by decide +kernel, by decide +kernel⟩
theorem k_W_empty : hg_YK Y_W_empty 0 := ⟨hg_in 597 (by decide +kernel) rfl, hg_in 2 (by decide +kernel) rfl, ⟨by decide +kernel, by decide +kernel, by decide +kernel⟩, by decide +kernel, by decide +kernel⟩
theorem k_W_become : hg_YK Y_W_become 1 := ⟨hg_in 665 (by decide +kernel) rfl, hg_in 2 (by decide +kernel) rfl, ⟨by decide +kernel, by decide +kernel, by decide +kernel⟩, by decide +kernel, by decide +kernel⟩
theorem k_S_init : hg_YK Y_S_init 1 := ⟨hg_in 123 (by decide +kernel) rfl, hg_in 7 (by decide +kernel) rfl, ⟨by decide +kernel, by decide +kernel, by decide +kernel⟩, by decide +kernel, by decide +kernel⟩
theorem k_S_become : hg_YK Y_S_become 1 := ⟨hg_in 325 (by decide +kernel) rfl, hg_in 7 (by decide +kernel) rfl, ⟨by decide +kernel, by decide +kernel, by decide +kernel⟩, by decide +kernel, by decide +kernel⟩
theorem k_S_has : hg_YK Y_S_has 1 := ⟨hg_in 301 (by decide +kernel) rfl, hg_in 7 (by decide +kernel) rfl, ⟨by decide +kernel, by decide +kernel, by decide +kernel⟩, by decide +kernel, by decide +kernel⟩
theorem k_S_at : hg_YK Y_S_at 1 := ⟨hg_in 297 (by decide +kernel) rfl, hg_in 7 (by decide +kernel) rfl, ⟨by decide +kernel, by decide +kernel, by decide +kernel⟩, by decide +kernel, by decide +kernel⟩
theorem k_S_add : hg_YK Y_S_add 3 := ⟨hg_in 285 (by decide +kernel) rfl, hg_in 7 (by decide +kernel) rfl, ⟨by decide +kernel, by decide +kernel, by decide +kernel⟩, by decide +kernel, by decide +kernel⟩
theorem k_S_placeOf : hg_YK Y_S_placeOf 1 := ⟨hg_in 351 (by decide +kernel) rfl, hg_in 7 (by decide +kernel) rfl, ⟨by decide +kernel, by decide +kernel, by decide +kernel⟩, by decide +kernel, by decide +kernel⟩
theorem k_S_change : hg_YK Y_S_change 2 := ⟨hg_in 368 (by decide +kernel) rfl, hg_in 7 (by decide +kernel) rfl, ⟨by decide +kernel, by decide +kernel, by decide +kernel⟩, by decide +kernel, by decide +kernel⟩
theorem k_S_dread : hg_YK Y_S_dread 1 := ⟨hg_in 305 (by decide +kernel) rfl, hg_in 7 (by decide +kernel) rfl, ⟨by decide +kernel, by decide +kernel, by decide +kernel⟩, by decide +kernel, by decide +kernel⟩
theorem k_S_isIll : hg_YK Y_S_isIll 1 := ⟨hg_in 316 (by decide +kernel) rfl, hg_in 7 (by decide +kernel) rfl, ⟨by decide +kernel, by decide +kernel, by decide +kernel⟩, by decide +kernel, by decide +kernel⟩
theorem k_S_host : hg_YK Y_S_host 0 := ⟨hg_in 549 (by decide +kernel) rfl, hg_in 7 (by decide +kernel) rfl, ⟨by decide +kernel, by decide +kernel, by decide +kernel⟩, by decide +kernel, by decide +kernel⟩
theorem k_S_hostPlace : hg_YK Y_S_hostPlace 0 := ⟨hg_in 338 (by decide +kernel) rfl, hg_in 7 (by decide +kernel) rfl, ⟨by decide +kernel, by decide +kernel, by decide +kernel⟩, by decide +kernel, by decide +kernel⟩
theorem k_S_behindPoint : hg_YK Y_S_behindPoint 1 := ⟨hg_in 342 (by decide +kernel) rfl, hg_in 7 (by decide +kernel) rfl, ⟨by decide +kernel, by decide +kernel, by decide +kernel⟩, by decide +kernel, by decide +kernel⟩
theorem k_S_thursdays : hg_YK Y_S_thursdays 1 := ⟨hg_in 564 (by decide +kernel) rfl, hg_in 7 (by decide +kernel) rfl, ⟨by decide +kernel, by decide +kernel, by decide +kernel⟩, by decide +kernel, by decide +kernel⟩
theorem k_S_thursday : hg_YK Y_S_thursday 0 := ⟨hg_in 334 (by decide +kernel) rfl, hg_in 7 (by decide +kernel) rfl, ⟨by decide +kernel, by decide +kernel, by decide +kernel⟩, by decide +kernel, by decide +kernel⟩
theorem k_S_dineAt : hg_YK Y_S_dineAt 1 := ⟨hg_in 347 (by decide +kernel) rfl, hg_in 7 (by decide +kernel) rfl, ⟨by decide +kernel, by decide +kernel, by decide +kernel⟩, by decide +kernel, by decide +kernel⟩
theorem k_T_init : hg_YK Y_T_init 0 := ⟨hg_in 79 (by decide +kernel) rfl, hg_in 4 (by decide +kernel) rfl, ⟨by decide +kernel, by decide +kernel, by decide +kernel⟩, by decide +kernel, by decide +kernel⟩
theorem k_T_isUnder : hg_YK Y_T_isUnder 2 := ⟨hg_in 710 (by decide +kernel) rfl, hg_in 4 (by decide +kernel) rfl, ⟨by decide +kernel, by decide +kernel, by decide +kernel⟩, by decide +kernel, by decide +kernel⟩
theorem k_T_forget : hg_YK Y_T_forget 0 := ⟨hg_in 678 (by decide +kernel) rfl, hg_in 4 (by decide +kernel) rfl, ⟨by decide +kernel, by decide +kernel, by decide +kernel⟩, by decide +kernel, by decide +kernel⟩
theorem k_T_kept : hg_YK Y_T_kept 0 := ⟨hg_in 702 (by decide +kernel) rfl, hg_in 4 (by decide +kernel) rfl, ⟨by decide +kernel, by decide +kernel, by decide +kernel⟩, by decide +kernel, by decide +kernel⟩
theorem k_T_start : hg_YK Y_T_start 4 := ⟨hg_in 682 (by decide +kernel) rfl, hg_in 4 (by decide +kernel) rfl, ⟨by decide +kernel, by decide +kernel, by decide +kernel⟩, by decide +kernel, by decide +kernel⟩
theorem k_T_find : hg_YK Y_T_find 4 := ⟨hg_in 686 (by decide +kernel) rfl, hg_in 4 (by decide +kernel) rfl, ⟨by decide +kernel, by decide +kernel, by decide +kernel⟩, by decide +kernel, by decide +kernel⟩
theorem k_T_run : hg_YK Y_T_run 4 := ⟨hg_in 692 (by decide +kernel) rfl, hg_in 4 (by decide +kernel) rfl, ⟨by decide +kernel, by decide +kernel, by decide +kernel⟩, by decide +kernel, by decide +kernel⟩
theorem k_P_init : hg_YK Y_P_init 0 := ⟨hg_in 214 (by decide +kernel) rfl, hg_in 9 (by decide +kernel) rfl, ⟨by decide +kernel, by decide +kernel, by decide +kernel⟩, by decide +kernel, by decide +kernel⟩
theorem k_P_hold : hg_YK Y_P_hold 2 := ⟨hg_in 722 (by decide +kernel) rfl, hg_in 9 (by decide +kernel) rfl, ⟨by decide +kernel, by decide +kernel, by decide +kernel⟩, by decide +kernel, by decide +kernel⟩
theorem k_P_has : hg_YK Y_P_has 1 := ⟨hg_in 657 (by decide +kernel) rfl, hg_in 9 (by decide +kernel) rfl, ⟨by decide +kernel, by decide +kernel, by decide +kernel⟩, by decide +kernel, by decide +kernel⟩
theorem k_P_hasAll : hg_YK Y_P_hasAll 2 := ⟨hg_in 742 (by decide +kernel) rfl, hg_in 9 (by decide +kernel) rfl, ⟨by decide +kernel, by decide +kernel, by decide +kernel⟩, by decide +kernel, by decide +kernel⟩
theorem k_P_cut : hg_YK Y_P_cut 1 := ⟨hg_in 730 (by decide +kernel) rfl, hg_in 9 (by decide +kernel) rfl, ⟨by decide +kernel, by decide +kernel, by decide +kernel⟩, by decide +kernel, by decide +kernel⟩
theorem k_O_init : hg_YK Y_O_init 3 := ⟨hg_in 105 (by decide +kernel) rfl, hg_in 5 (by decide +kernel) rfl, ⟨by decide +kernel, by decide +kernel, by decide +kernel⟩, by decide +kernel, by decide +kernel⟩
theorem k_O_fearOf : hg_YK Y_O_fearOf 1 := ⟨hg_in 309 (by decide +kernel) rfl, hg_in 5 (by decide +kernel) rfl, ⟨by decide +kernel, by decide +kernel, by decide +kernel⟩, by decide +kernel, by decide +kernel⟩
theorem k_D_init : hg_YK Y_D_init 0 := ⟨hg_in 21 (by decide +kernel) rfl, hg_in 1 (by decide +kernel) rfl, ⟨by decide +kernel, by decide +kernel, by decide +kernel⟩, by decide +kernel, by decide +kernel⟩
theorem k_D_house : hg_YK Y_D_house 3 := ⟨hg_in 278 (by decide +kernel) rfl, hg_in 1 (by decide +kernel) rfl, ⟨by decide +kernel, by decide +kernel, by decide +kernel⟩, by decide +kernel, by decide +kernel⟩
theorem k_D_of : hg_YK Y_D_of 2 := ⟨hg_in 293 (by decide +kernel) rfl, hg_in 1 (by decide +kernel) rfl, ⟨by decide +kernel, by decide +kernel, by decide +kernel⟩, by decide +kernel, by decide +kernel⟩
theorem k_D_set : hg_YK Y_D_set 3 := ⟨hg_in 355 (by decide +kernel) rfl, hg_in 1 (by decide +kernel) rfl, ⟨by decide +kernel, by decide +kernel, by decide +kernel⟩, by decide +kernel, by decide +kernel⟩
theorem k_D_shut : hg_YK Y_D_shut 2 := ⟨hg_in 359 (by decide +kernel) rfl, hg_in 1 (by decide +kernel) rfl, ⟨by decide +kernel, by decide +kernel, by decide +kernel⟩, by decide +kernel, by decide +kernel⟩
theorem k_D_swap : hg_YK Y_D_swap 2 := ⟨hg_in 363 (by decide +kernel) rfl, hg_in 1 (by decide +kernel) rfl, ⟨by decide +kernel, by decide +kernel, by decide +kernel⟩, by decide +kernel, by decide +kernel⟩
theorem k_D_row : hg_YK Y_D_row 3 := ⟨hg_in 373 (by decide +kernel) rfl, hg_in 1 (by decide +kernel) rfl, ⟨by decide +kernel, by decide +kernel, by decide +kernel⟩, by decide +kernel, by decide +kernel⟩
theorem k_D_feed : hg_YK Y_D_feed 1 := ⟨hg_in 377 (by decide +kernel) rfl, hg_in 1 (by decide +kernel) rfl, ⟨by decide +kernel, by decide +kernel, by decide +kernel⟩, by decide +kernel, by decide +kernel⟩
theorem k_D_town : hg_YK Y_D_town 0 := ⟨hg_in 385 (by decide +kernel) rfl, hg_in 1 (by decide +kernel) rfl, ⟨by decide +kernel, by decide +kernel, by decide +kernel⟩, by decide +kernel, by decide +kernel⟩
theorem k_D_told : hg_YK Y_D_told 1 := ⟨hg_in 545 (by decide +kernel) rfl, hg_in 1 (by decide +kernel) rfl, ⟨by decide +kernel, by decide +kernel, by decide +kernel⟩, by decide +kernel, by decide +kernel⟩
theorem k_D_illOnes : hg_YK Y_D_illOnes 0 := ⟨hg_in 556 (by decide +kernel) rfl, hg_in 1 (by decide +kernel) rfl, ⟨by decide +kernel, by decide +kernel, by decide +kernel⟩, by decide +kernel, by decide +kernel⟩
theorem k_D_pass : hg_YK Y_D_pass 1 := ⟨hg_in 560 (by decide +kernel) rfl, hg_in 1 (by decide +kernel) rfl, ⟨by decide +kernel, by decide +kernel, by decide +kernel⟩, by decide +kernel, by decide +kernel⟩
theorem k_D_on : hg_YK Y_D_on 2 := ⟨hg_in 569 (by decide +kernel) rfl, hg_in 1 (by decide +kernel) rfl, ⟨by decide +kernel, by decide +kernel, by decide +kernel⟩, by decide +kernel, by decide +kernel⟩
theorem k_D_comes : hg_YK Y_D_comes 1 := ⟨hg_in 321 (by decide +kernel) rfl, hg_in 1 (by decide +kernel) rfl, ⟨by decide +kernel, by decide +kernel, by decide +kernel⟩, by decide +kernel, by decide +kernel⟩
theorem k_D_doors : hg_YK Y_D_doors 1 := ⟨hg_in 573 (by decide +kernel) rfl, hg_in 1 (by decide +kernel) rfl, ⟨by decide +kernel, by decide +kernel, by decide +kernel⟩, by decide +kernel, by decide +kernel⟩
theorem k_D_feign : hg_YK Y_D_feign 2 := ⟨hg_in 577 (by decide +kernel) rfl, hg_in 1 (by decide +kernel) rfl, ⟨by decide +kernel, by decide +kernel, by decide +kernel⟩, by decide +kernel, by decide +kernel⟩
theorem k_D_openOnes : hg_YK Y_D_openOnes 0 := ⟨hg_in 581 (by decide +kernel) rfl, hg_in 1 (by decide +kernel) rfl, ⟨by decide +kernel, by decide +kernel, by decide +kernel⟩, by decide +kernel, by decide +kernel⟩
theorem k_D_dineBySet : hg_YK Y_D_dineBySet 2 := ⟨hg_in 585 (by decide +kernel) rfl, hg_in 1 (by decide +kernel) rfl, ⟨by decide +kernel, by decide +kernel, by decide +kernel⟩, by decide +kernel, by decide +kernel⟩
theorem k_D_rests : hg_YK Y_D_rests 2 := ⟨hg_in 589 (by decide +kernel) rfl, hg_in 1 (by decide +kernel) rfl, ⟨by decide +kernel, by decide +kernel, by decide +kernel⟩, by decide +kernel, by decide +kernel⟩
theorem k_D_see : hg_YK Y_D_see 2 := ⟨hg_in 593 (by decide +kernel) rfl, hg_in 1 (by decide +kernel) rfl, ⟨by decide +kernel, by decide +kernel, by decide +kernel⟩, by decide +kernel, by decide +kernel⟩
theorem k_D_can : hg_YK Y_D_can 3 := ⟨hg_in 605 (by decide +kernel) rfl, hg_in 1 (by decide +kernel) rfl, ⟨by decide +kernel, by decide +kernel, by decide +kernel⟩, by decide +kernel, by decide +kernel⟩
theorem k_D_allSeenGoesSo : hg_YK Y_D_allSeenGoesSo 0 := ⟨hg_in 609 (by decide +kernel) rfl, hg_in 1 (by decide +kernel) rfl, ⟨by decide +kernel, by decide +kernel, by decide +kernel⟩, by decide +kernel, by decide +kernel⟩
theorem k_D_odds : hg_YK Y_D_odds 2 := ⟨hg_in 614 (by decide +kernel) rfl, hg_in 1 (by decide +kernel) rfl, ⟨by decide +kernel, by decide +kernel, by decide +kernel⟩, by decide +kernel, by decide +kernel⟩
theorem k_D_mean : hg_YK Y_D_mean 2 := ⟨hg_in 625 (by decide +kernel) rfl, hg_in 1 (by decide +kernel) rfl, ⟨by decide +kernel, by decide +kernel, by decide +kernel⟩, by decide +kernel, by decide +kernel⟩
theorem k_D_lowest : hg_YK Y_D_lowest 3 := ⟨hg_in 618 (by decide +kernel) rfl, hg_in 1 (by decide +kernel) rfl, ⟨by decide +kernel, by decide +kernel, by decide +kernel⟩, by decide +kernel, by decide +kernel⟩
theorem k_D_divisor : hg_YK Y_D_divisor 2 := ⟨hg_in 621 (by decide +kernel) rfl, hg_in 1 (by decide +kernel) rfl, ⟨by decide +kernel, by decide +kernel, by decide +kernel⟩, by decide +kernel, by decide +kernel⟩
theorem k_D_plan : hg_YK Y_D_plan 2 := ⟨hg_in 629 (by decide +kernel) rfl, hg_in 1 (by decide +kernel) rfl, ⟨by decide +kernel, by decide +kernel, by decide +kernel⟩, by decide +kernel, by decide +kernel⟩
theorem k_D_ends : hg_YK Y_D_ends 1 := ⟨hg_in 633 (by decide +kernel) rfl, hg_in 1 (by decide +kernel) rfl, ⟨by decide +kernel, by decide +kernel, by decide +kernel⟩, by decide +kernel, by decide +kernel⟩
theorem k_D_goAsPlanned : hg_YK Y_D_goAsPlanned 2 := ⟨hg_in 637 (by decide +kernel) rfl, hg_in 1 (by decide +kernel) rfl, ⟨by decide +kernel, by decide +kernel, by decide +kernel⟩, by decide +kernel, by decide +kernel⟩
theorem k_D_book : hg_YK Y_D_book 2 := ⟨hg_in 641 (by decide +kernel) rfl, hg_in 1 (by decide +kernel) rfl, ⟨by decide +kernel, by decide +kernel, by decide +kernel⟩, by decide +kernel, by decide +kernel⟩
theorem k_D_looked : hg_YK Y_D_looked 0 := ⟨hg_in 645 (by decide +kernel) rfl, hg_in 1 (by decide +kernel) rfl, ⟨by decide +kernel, by decide +kernel, by decide +kernel⟩, by decide +kernel, by decide +kernel⟩
theorem k_D_judge : hg_YK Y_D_judge 2 := ⟨hg_in 649 (by decide +kernel) rfl, hg_in 1 (by decide +kernel) rfl, ⟨by decide +kernel, by decide +kernel, by decide +kernel⟩, by decide +kernel, by decide +kernel⟩
theorem k_D_image : hg_YK Y_D_image 0 := ⟨hg_in 661 (by decide +kernel) rfl, hg_in 1 (by decide +kernel) rfl, ⟨by decide +kernel, by decide +kernel, by decide +kernel⟩, by decide +kernel, by decide +kernel⟩
theorem k_D_undo : hg_YK Y_D_undo 0 := ⟨hg_in 670 (by decide +kernel) rfl, hg_in 1 (by decide +kernel) rfl, ⟨by decide +kernel, by decide +kernel, by decide +kernel⟩, by decide +kernel, by decide +kernel⟩
theorem k_D_act : hg_YK Y_D_act 3 := ⟨hg_in 674 (by decide +kernel) rfl, hg_in 1 (by decide +kernel) rfl, ⟨by decide +kernel, by decide +kernel, by decide +kernel⟩, by decide +kernel, by decide +kernel⟩
theorem k_D_trace : hg_YK Y_D_trace 1 := ⟨hg_in 698 (by decide +kernel) rfl, hg_in 1 (by decide +kernel) rfl, ⟨by decide +kernel, by decide +kernel, by decide +kernel⟩, by decide +kernel, by decide +kernel⟩
theorem k_D_taken : hg_YK Y_D_taken 2 := ⟨hg_in 707 (by decide +kernel) rfl, hg_in 1 (by decide +kernel) rfl, ⟨by decide +kernel, by decide +kernel, by decide +kernel⟩, by decide +kernel, by decide +kernel⟩
theorem k_D_count : hg_YK Y_D_count 1 := ⟨hg_in 714 (by decide +kernel) rfl, hg_in 1 (by decide +kernel) rfl, ⟨by decide +kernel, by decide +kernel, by decide +kernel⟩, by decide +kernel, by decide +kernel⟩
theorem k_D_tape : hg_YK Y_D_tape 3 := ⟨hg_in 718 (by decide +kernel) rfl, hg_in 1 (by decide +kernel) rfl, ⟨by decide +kernel, by decide +kernel, by decide +kernel⟩, by decide +kernel, by decide +kernel⟩
theorem k_D_item : hg_YK Y_D_item 3 := ⟨hg_in 726 (by decide +kernel) rfl, hg_in 1 (by decide +kernel) rfl, ⟨by decide +kernel, by decide +kernel, by decide +kernel⟩, by decide +kernel, by decide +kernel⟩
theorem k_D_read : hg_YK Y_D_read 2 := ⟨hg_in 734 (by decide +kernel) rfl, hg_in 1 (by decide +kernel) rfl, ⟨by decide +kernel, by decide +kernel, by decide +kernel⟩, by decide +kernel, by decide +kernel⟩
theorem k_D_shift : hg_YK Y_D_shift 5 := ⟨hg_in 738 (by decide +kernel) rfl, hg_in 1 (by decide +kernel) rfl, ⟨by decide +kernel, by decide +kernel, by decide +kernel⟩, by decide +kernel, by decide +kernel⟩
theorem k_D_tapeAt : hg_YK Y_D_tapeAt 1 := ⟨hg_in 653 (by decide +kernel) rfl, hg_in 1 (by decide +kernel) rfl, ⟨by decide +kernel, by decide +kernel, by decide +kernel⟩, by decide +kernel, by decide +kernel⟩
theorem k_D_within : hg_YK Y_D_within 2 := ⟨hg_in 281 (by decide +kernel) rfl, hg_in 1 (by decide +kernel) rfl, ⟨by decide +kernel, by decide +kernel, by decide +kernel⟩, by decide +kernel, by decide +kernel⟩
theorem k_D_orNotThere : hg_YK Y_D_orNotThere 1 := ⟨hg_in 552 (by decide +kernel) rfl, hg_in 1 (by decide +kernel) rfl, ⟨by decide +kernel, by decide +kernel, by decide +kernel⟩, by decide +kernel, by decide +kernel⟩
theorem k_M_init : hg_YK Y_M_init 0 := ⟨hg_in 748 (by decide +kernel) rfl, hg_in 10 (by decide +kernel) rfl, ⟨by decide +kernel, by decide +kernel, by decide +kernel⟩, by decide +kernel, by decide +kernel⟩
theorem k_M_within : hg_YK Y_M_within 3 := ⟨hg_in 902 (by decide +kernel) rfl, hg_in 10 (by decide +kernel) rfl, ⟨by decide +kernel, by decide +kernel, by decide +kernel⟩, by decide +kernel, by decide +kernel⟩
theorem k_M_isOne : hg_YK Y_M_isOne 1 := ⟨hg_in 910 (by decide +kernel) rfl, hg_in 10 (by decide +kernel) rfl, ⟨by decide +kernel, by decide +kernel, by decide +kernel⟩, by decide +kernel, by decide +kernel⟩
theorem k_M_has : hg_YK Y_M_has 2 := ⟨hg_in 958 (by decide +kernel) rfl, hg_in 10 (by decide +kernel) rfl, ⟨by decide +kernel, by decide +kernel, by decide +kernel⟩, by decide +kernel, by decide +kernel⟩
theorem k_M_house : hg_YK Y_M_house 3 := ⟨hg_in 899 (by decide +kernel) rfl, hg_in 10 (by decide +kernel) rfl, ⟨by decide +kernel, by decide +kernel, by decide +kernel⟩, by decide +kernel, by decide +kernel⟩
theorem k_M_placeOf : hg_YK Y_M_placeOf 1 := ⟨hg_in 970 (by decide +kernel) rfl, hg_in 10 (by decide +kernel) rfl, ⟨by decide +kernel, by decide +kernel, by decide +kernel⟩, by decide +kernel, by decide +kernel⟩
theorem k_M_of : hg_YK Y_M_of 2 := ⟨hg_in 906 (by decide +kernel) rfl, hg_in 10 (by decide +kernel) rfl, ⟨by decide +kernel, by decide +kernel, by decide +kernel⟩, by decide +kernel, by decide +kernel⟩
theorem k_M_set : hg_YK Y_M_set 3 := ⟨hg_in 974 (by decide +kernel) rfl, hg_in 10 (by decide +kernel) rfl, ⟨by decide +kernel, by decide +kernel, by decide +kernel⟩, by decide +kernel, by decide +kernel⟩
theorem k_M_shut : hg_YK Y_M_shut 2 := ⟨hg_in 978 (by decide +kernel) rfl, hg_in 10 (by decide +kernel) rfl, ⟨by decide +kernel, by decide +kernel, by decide +kernel⟩, by decide +kernel, by decide +kernel⟩
theorem k_M_swaps : hg_YK Y_M_swaps 2 := ⟨hg_in 986 (by decide +kernel) rfl, hg_in 10 (by decide +kernel) rfl, ⟨by decide +kernel, by decide +kernel, by decide +kernel⟩, by decide +kernel, by decide +kernel⟩
theorem k_M_swap : hg_YK Y_M_swap 2 := ⟨hg_in 982 (by decide +kernel) rfl, hg_in 10 (by decide +kernel) rfl, ⟨by decide +kernel, by decide +kernel, by decide +kernel⟩, by decide +kernel, by decide +kernel⟩
theorem k_M_row : hg_YK Y_M_row 3 := ⟨hg_in 990 (by decide +kernel) rfl, hg_in 10 (by decide +kernel) rfl, ⟨by decide +kernel, by decide +kernel, by decide +kernel⟩, by decide +kernel, by decide +kernel⟩
theorem k_M_feed : hg_YK Y_M_feed 1 := ⟨hg_in 994 (by decide +kernel) rfl, hg_in 10 (by decide +kernel) rfl, ⟨by decide +kernel, by decide +kernel, by decide +kernel⟩, by decide +kernel, by decide +kernel⟩
theorem k_M_is : hg_YK Y_M_is 1 := ⟨hg_in 1013 (by decide +kernel) rfl, hg_in 10 (by decide +kernel) rfl, ⟨by decide +kernel, by decide +kernel, by decide +kernel⟩, by decide +kernel, by decide +kernel⟩
theorem k_M_isDigit : hg_YK Y_M_isDigit 0 := ⟨hg_in 1023 (by decide +kernel) rfl, hg_in 10 (by decide +kernel) rfl, ⟨by decide +kernel, by decide +kernel, by decide +kernel⟩, by decide +kernel, by decide +kernel⟩
theorem k_M_isNumber : hg_YK Y_M_isNumber 0 := ⟨hg_in 1019 (by decide +kernel) rfl, hg_in 10 (by decide +kernel) rfl, ⟨by decide +kernel, by decide +kernel, by decide +kernel⟩, by decide +kernel, by decide +kernel⟩
theorem k_M_isAll : hg_YK Y_M_isAll 1 := ⟨hg_in 1007 (by decide +kernel) rfl, hg_in 10 (by decide +kernel) rfl, ⟨by decide +kernel, by decide +kernel, by decide +kernel⟩, by decide +kernel, by decide +kernel⟩
theorem k_M_codes : hg_YK Y_M_codes 1 := ⟨hg_in 1043 (by decide +kernel) rfl, hg_in 10 (by decide +kernel) rfl, ⟨by decide +kernel, by decide +kernel, by decide +kernel⟩, by decide +kernel, by decide +kernel⟩
theorem k_M_isTest : hg_YK Y_M_isTest 0 := ⟨hg_in 1047 (by decide +kernel) rfl, hg_in 10 (by decide +kernel) rfl, ⟨by decide +kernel, by decide +kernel, by decide +kernel⟩, by decide +kernel, by decide +kernel⟩
theorem k_M_isOpened : hg_YK Y_M_isOpened 1 := ⟨hg_in 1039 (by decide +kernel) rfl, hg_in 10 (by decide +kernel) rfl, ⟨by decide +kernel, by decide +kernel, by decide +kernel⟩, by decide +kernel, by decide +kernel⟩
theorem k_M_isF : hg_YK Y_M_isF 0 := ⟨hg_in 1035 (by decide +kernel) rfl, hg_in 10 (by decide +kernel) rfl, ⟨by decide +kernel, by decide +kernel, by decide +kernel⟩, by decide +kernel, by decide +kernel⟩
theorem k_M_isT : hg_YK Y_M_isT 0 := ⟨hg_in 1031 (by decide +kernel) rfl, hg_in 10 (by decide +kernel) rfl, ⟨by decide +kernel, by decide +kernel, by decide +kernel⟩, by decide +kernel, by decide +kernel⟩
theorem k_M_isE : hg_YK Y_M_isE 0 := ⟨hg_in 1027 (by decide +kernel) rfl, hg_in 10 (by decide +kernel) rfl, ⟨by decide +kernel, by decide +kernel, by decide +kernel⟩, by decide +kernel, by decide +kernel⟩
theorem k_M_isClause : hg_YK Y_M_isClause 1 := ⟨hg_in 1002 (by decide +kernel) rfl, hg_in 10 (by decide +kernel) rfl, ⟨by decide +kernel, by decide +kernel, by decide +kernel⟩, by decide +kernel, by decide +kernel⟩
theorem k_M_town : hg_YK Y_M_town 0 := ⟨hg_in 998 (by decide +kernel) rfl, hg_in 10 (by decide +kernel) rfl, ⟨by decide +kernel, by decide +kernel, by decide +kernel⟩, by decide +kernel, by decide +kernel⟩
theorem k_M_letterOf : hg_YK Y_M_letterOf 2 := ⟨hg_in 926 (by decide +kernel) rfl, hg_in 10 (by decide +kernel) rfl, ⟨by decide +kernel, by decide +kernel, by decide +kernel⟩, by decide +kernel, by decide +kernel⟩
theorem k_M_isTrue : hg_YK Y_M_isTrue 2 := ⟨hg_in 922 (by decide +kernel) rfl, hg_in 10 (by decide +kernel) rfl, ⟨by decide +kernel, by decide +kernel, by decide +kernel⟩, by decide +kernel, by decide +kernel⟩
theorem k_M_sum : hg_YK Y_M_sum 1 := ⟨hg_in 918 (by decide +kernel) rfl, hg_in 10 (by decide +kernel) rfl, ⟨by decide +kernel, by decide +kernel, by decide +kernel⟩, by decide +kernel, by decide +kernel⟩
theorem k_M_illFrom : hg_YK Y_M_illFrom 0 := ⟨hg_in 935 (by decide +kernel) rfl, hg_in 10 (by decide +kernel) rfl, ⟨by decide +kernel, by decide +kernel, by decide +kernel⟩, by decide +kernel, by decide +kernel⟩
theorem k_M_dread : hg_YK Y_M_dread 1 := ⟨hg_in 914 (by decide +kernel) rfl, hg_in 10 (by decide +kernel) rfl, ⟨by decide +kernel, by decide +kernel, by decide +kernel⟩, by decide +kernel, by decide +kernel⟩
theorem k_M_isIll : hg_YK Y_M_isIll 1 := ⟨hg_in 931 (by decide +kernel) rfl, hg_in 10 (by decide +kernel) rfl, ⟨by decide +kernel, by decide +kernel, by decide +kernel⟩, by decide +kernel, by decide +kernel⟩
theorem k_M_ills : hg_YK Y_M_ills 0 := ⟨hg_in 951 (by decide +kernel) rfl, hg_in 10 (by decide +kernel) rfl, ⟨by decide +kernel, by decide +kernel, by decide +kernel⟩, by decide +kernel, by decide +kernel⟩
theorem k_M_placeBy : hg_YK Y_M_placeBy 1 := ⟨hg_in 955 (by decide +kernel) rfl, hg_in 10 (by decide +kernel) rfl, ⟨by decide +kernel, by decide +kernel, by decide +kernel⟩, by decide +kernel, by decide +kernel⟩
theorem k_M_host : hg_YK Y_M_host 0 := ⟨hg_in 962 (by decide +kernel) rfl, hg_in 10 (by decide +kernel) rfl, ⟨by decide +kernel, by decide +kernel, by decide +kernel⟩, by decide +kernel, by decide +kernel⟩
theorem k_M_held : hg_YK Y_M_held 1 := ⟨hg_in 1061 (by decide +kernel) rfl, hg_in 10 (by decide +kernel) rfl, ⟨by decide +kernel, by decide +kernel, by decide +kernel⟩, by decide +kernel, by decide +kernel⟩
theorem k_M_goesThursday : hg_YK Y_M_goesThursday 0 := ⟨hg_in 947 (by decide +kernel) rfl, hg_in 10 (by decide +kernel) rfl, ⟨by decide +kernel, by decide +kernel, by decide +kernel⟩, by decide +kernel, by decide +kernel⟩
theorem k_M_told : hg_YK Y_M_told 1 := ⟨hg_in 1054 (by decide +kernel) rfl, hg_in 10 (by decide +kernel) rfl, ⟨by decide +kernel, by decide +kernel, by decide +kernel⟩, by decide +kernel, by decide +kernel⟩
theorem k_M_pass : hg_YK Y_M_pass 1 := ⟨hg_in 1058 (by decide +kernel) rfl, hg_in 10 (by decide +kernel) rfl, ⟨by decide +kernel, by decide +kernel, by decide +kernel⟩, by decide +kernel, by decide +kernel⟩
theorem k_M_on : hg_YK Y_M_on 2 := ⟨hg_in 1065 (by decide +kernel) rfl, hg_in 10 (by decide +kernel) rfl, ⟨by decide +kernel, by decide +kernel, by decide +kernel⟩, by decide +kernel, by decide +kernel⟩
theorem k_M_comesTo : hg_YK Y_M_comesTo 1 := ⟨hg_in 939 (by decide +kernel) rfl, hg_in 10 (by decide +kernel) rfl, ⟨by decide +kernel, by decide +kernel, by decide +kernel⟩, by decide +kernel, by decide +kernel⟩
theorem k_M_clashesBehind : hg_YK Y_M_clashesBehind 1 := ⟨hg_in 1073 (by decide +kernel) rfl, hg_in 10 (by decide +kernel) rfl, ⟨by decide +kernel, by decide +kernel, by decide +kernel⟩, by decide +kernel, by decide +kernel⟩
theorem k_M_doors : hg_YK Y_M_doors 1 := ⟨hg_in 1069 (by decide +kernel) rfl, hg_in 10 (by decide +kernel) rfl, ⟨by decide +kernel, by decide +kernel, by decide +kernel⟩, by decide +kernel, by decide +kernel⟩
theorem k_M_feigns : hg_YK Y_M_feigns 2 := ⟨hg_in 1085 (by decide +kernel) rfl, hg_in 10 (by decide +kernel) rfl, ⟨by decide +kernel, by decide +kernel, by decide +kernel⟩, by decide +kernel, by decide +kernel⟩
theorem k_M_openOnes : hg_YK Y_M_openOnes 0 := ⟨hg_in 1081 (by decide +kernel) rfl, hg_in 10 (by decide +kernel) rfl, ⟨by decide +kernel, by decide +kernel, by decide +kernel⟩, by decide +kernel, by decide +kernel⟩
theorem k_M_rests : hg_YK Y_M_rests 2 := ⟨hg_in 1089 (by decide +kernel) rfl, hg_in 10 (by decide +kernel) rfl, ⟨by decide +kernel, by decide +kernel, by decide +kernel⟩, by decide +kernel, by decide +kernel⟩
theorem k_M_feign : hg_YK Y_M_feign 2 := ⟨hg_in 1077 (by decide +kernel) rfl, hg_in 10 (by decide +kernel) rfl, ⟨by decide +kernel, by decide +kernel, by decide +kernel⟩, by decide +kernel, by decide +kernel⟩
theorem k_M_see : hg_YK Y_M_see 2 := ⟨hg_in 1093 (by decide +kernel) rfl, hg_in 10 (by decide +kernel) rfl, ⟨by decide +kernel, by decide +kernel, by decide +kernel⟩, by decide +kernel, by decide +kernel⟩
theorem k_M_isSeen : hg_YK Y_M_isSeen 0 := ⟨hg_in 1101 (by decide +kernel) rfl, hg_in 10 (by decide +kernel) rfl, ⟨by decide +kernel, by decide +kernel, by decide +kernel⟩, by decide +kernel, by decide +kernel⟩
theorem k_M_can : hg_YK Y_M_can 3 := ⟨hg_in 1097 (by decide +kernel) rfl, hg_in 10 (by decide +kernel) rfl, ⟨by decide +kernel, by decide +kernel, by decide +kernel⟩, by decide +kernel, by decide +kernel⟩
theorem k_M_part : hg_YK Y_M_part 3 := ⟨hg_in 1109 (by decide +kernel) rfl, hg_in 10 (by decide +kernel) rfl, ⟨by decide +kernel, by decide +kernel, by decide +kernel⟩, by decide +kernel, by decide +kernel⟩
theorem k_M_odds : hg_YK Y_M_odds 2 := ⟨hg_in 1105 (by decide +kernel) rfl, hg_in 10 (by decide +kernel) rfl, ⟨by decide +kernel, by decide +kernel, by decide +kernel⟩, by decide +kernel, by decide +kernel⟩
theorem k_M_mean : hg_YK Y_M_mean 2 := ⟨hg_in 1113 (by decide +kernel) rfl, hg_in 10 (by decide +kernel) rfl, ⟨by decide +kernel, by decide +kernel, by decide +kernel⟩, by decide +kernel, by decide +kernel⟩
theorem k_M_plan : hg_YK Y_M_plan 2 := ⟨hg_in 1117 (by decide +kernel) rfl, hg_in 10 (by decide +kernel) rfl, ⟨by decide +kernel, by decide +kernel, by decide +kernel⟩, by decide +kernel, by decide +kernel⟩
theorem k_M_ends : hg_YK Y_M_ends 1 := ⟨hg_in 1121 (by decide +kernel) rfl, hg_in 10 (by decide +kernel) rfl, ⟨by decide +kernel, by decide +kernel, by decide +kernel⟩, by decide +kernel, by decide +kernel⟩
theorem k_M_book : hg_YK Y_M_book 2 := ⟨hg_in 1125 (by decide +kernel) rfl, hg_in 10 (by decide +kernel) rfl, ⟨by decide +kernel, by decide +kernel, by decide +kernel⟩, by decide +kernel, by decide +kernel⟩
theorem k_M_looked : hg_YK Y_M_looked 0 := ⟨hg_in 1129 (by decide +kernel) rfl, hg_in 10 (by decide +kernel) rfl, ⟨by decide +kernel, by decide +kernel, by decide +kernel⟩, by decide +kernel, by decide +kernel⟩
theorem k_M_judge : hg_YK Y_M_judge 2 := ⟨hg_in 1133 (by decide +kernel) rfl, hg_in 10 (by decide +kernel) rfl, ⟨by decide +kernel, by decide +kernel, by decide +kernel⟩, by decide +kernel, by decide +kernel⟩
theorem k_M_keep : hg_YK Y_M_keep 1 := ⟨hg_in 943 (by decide +kernel) rfl, hg_in 10 (by decide +kernel) rfl, ⟨by decide +kernel, by decide +kernel, by decide +kernel⟩, by decide +kernel, by decide +kernel⟩
theorem k_M_again : hg_YK Y_M_again 1 := ⟨hg_in 966 (by decide +kernel) rfl, hg_in 10 (by decide +kernel) rfl, ⟨by decide +kernel, by decide +kernel, by decide +kernel⟩, by decide +kernel, by decide +kernel⟩
theorem k_M_image : hg_YK Y_M_image 0 := ⟨hg_in 1137 (by decide +kernel) rfl, hg_in 10 (by decide +kernel) rfl, ⟨by decide +kernel, by decide +kernel, by decide +kernel⟩, by decide +kernel, by decide +kernel⟩
theorem k_M_undo : hg_YK Y_M_undo 0 := ⟨hg_in 1141 (by decide +kernel) rfl, hg_in 10 (by decide +kernel) rfl, ⟨by decide +kernel, by decide +kernel, by decide +kernel⟩, by decide +kernel, by decide +kernel⟩
theorem k_M_ran : hg_YK Y_M_ran 1 := ⟨hg_in 1153 (by decide +kernel) rfl, hg_in 10 (by decide +kernel) rfl, ⟨by decide +kernel, by decide +kernel, by decide +kernel⟩, by decide +kernel, by decide +kernel⟩
theorem k_M_above : hg_YK Y_M_above 1 := ⟨hg_in 1156 (by decide +kernel) rfl, hg_in 10 (by decide +kernel) rfl, ⟨by decide +kernel, by decide +kernel, by decide +kernel⟩, by decide +kernel, by decide +kernel⟩
theorem k_M_asks : hg_YK Y_M_asks 3 := ⟨hg_in 1149 (by decide +kernel) rfl, hg_in 10 (by decide +kernel) rfl, ⟨by decide +kernel, by decide +kernel, by decide +kernel⟩, by decide +kernel, by decide +kernel⟩
theorem k_M_talks : hg_YK Y_M_talks 3 := ⟨hg_in 1160 (by decide +kernel) rfl, hg_in 10 (by decide +kernel) rfl, ⟨by decide +kernel, by decide +kernel, by decide +kernel⟩, by decide +kernel, by decide +kernel⟩
theorem k_M_tells : hg_YK Y_M_tells 3 := ⟨hg_in 1164 (by decide +kernel) rfl, hg_in 10 (by decide +kernel) rfl, ⟨by decide +kernel, by decide +kernel, by decide +kernel⟩, by decide +kernel, by decide +kernel⟩
theorem k_M_act : hg_YK Y_M_act 3 := ⟨hg_in 1145 (by decide +kernel) rfl, hg_in 10 (by decide +kernel) rfl, ⟨by decide +kernel, by decide +kernel, by decide +kernel⟩, by decide +kernel, by decide +kernel⟩
theorem k_M_trace : hg_YK Y_M_trace 1 := ⟨hg_in 1168 (by decide +kernel) rfl, hg_in 10 (by decide +kernel) rfl, ⟨by decide +kernel, by decide +kernel, by decide +kernel⟩, by decide +kernel, by decide +kernel⟩
theorem k_M_taken : hg_YK Y_M_taken 2 := ⟨hg_in 1172 (by decide +kernel) rfl, hg_in 10 (by decide +kernel) rfl, ⟨by decide +kernel, by decide +kernel, by decide +kernel⟩, by decide +kernel, by decide +kernel⟩
theorem k_M_count : hg_YK Y_M_count 1 := ⟨hg_in 1176 (by decide +kernel) rfl, hg_in 10 (by decide +kernel) rfl, ⟨by decide +kernel, by decide +kernel, by decide +kernel⟩, by decide +kernel, by decide +kernel⟩
theorem k_M_isTape : hg_YK Y_M_isTape 1 := ⟨hg_in 1183 (by decide +kernel) rfl, hg_in 10 (by decide +kernel) rfl, ⟨by decide +kernel, by decide +kernel, by decide +kernel⟩, by decide +kernel, by decide +kernel⟩
theorem k_M_tape : hg_YK Y_M_tape 3 := ⟨hg_in 1180 (by decide +kernel) rfl, hg_in 10 (by decide +kernel) rfl, ⟨by decide +kernel, by decide +kernel, by decide +kernel⟩, by decide +kernel, by decide +kernel⟩
theorem k_M_kept : hg_YK Y_M_kept 2 := ⟨hg_in 1190 (by decide +kernel) rfl, hg_in 10 (by decide +kernel) rfl, ⟨by decide +kernel, by decide +kernel, by decide +kernel⟩, by decide +kernel, by decide +kernel⟩
theorem k_M_item : hg_YK Y_M_item 3 := ⟨hg_in 1187 (by decide +kernel) rfl, hg_in 10 (by decide +kernel) rfl, ⟨by decide +kernel, by decide +kernel, by decide +kernel⟩, by decide +kernel, by decide +kernel⟩
theorem k_M_read : hg_YK Y_M_read 2 := ⟨hg_in 1194 (by decide +kernel) rfl, hg_in 10 (by decide +kernel) rfl, ⟨by decide +kernel, by decide +kernel, by decide +kernel⟩, by decide +kernel, by decide +kernel⟩
theorem k_M_shift : hg_YK Y_M_shift 5 := ⟨hg_in 1198 (by decide +kernel) rfl, hg_in 10 (by decide +kernel) rfl, ⟨by decide +kernel, by decide +kernel, by decide +kernel⟩, by decide +kernel, by decide +kernel⟩
theorem k_JS_length : hg_YK Y_JS_length 0 := ⟨hg_in 402 (by decide +kernel) rfl, hg_in 12 (by decide +kernel) rfl, ⟨by decide +kernel, by decide +kernel, by decide +kernel⟩, by decide +kernel, by decide +kernel⟩
theorem k_JS_charAt : hg_YK Y_JS_charAt 1 := ⟨hg_in 412 (by decide +kernel) rfl, hg_in 12 (by decide +kernel) rfl, ⟨by decide +kernel, by decide +kernel, by decide +kernel⟩, by decide +kernel, by decide +kernel⟩
theorem k_JS_indexOf_0 : hg_YK Y_JS_indexOf_0 1 := ⟨hg_in 477 (by decide +kernel) rfl, hg_in 12 (by decide +kernel) rfl, ⟨by decide +kernel, by decide +kernel, by decide +kernel⟩, by decide +kernel, by decide +kernel⟩
theorem k_JS_indexOf_1 : hg_YK Y_JS_indexOf_1 2 := ⟨hg_in 481 (by decide +kernel) rfl, hg_in 12 (by decide +kernel) rfl, ⟨by decide +kernel, by decide +kernel, by decide +kernel⟩, by decide +kernel, by decide +kernel⟩
theorem k_JS_coder : hg_YK Y_JS_coder 0 := ⟨hg_in 406 (by decide +kernel) rfl, hg_in 12 (by decide +kernel) rfl, ⟨by decide +kernel, by decide +kernel, by decide +kernel⟩, by decide +kernel, by decide +kernel⟩
theorem k_JS_isLatin1 : hg_YK Y_JS_isLatin1 0 := ⟨hg_in 416 (by decide +kernel) rfl, hg_in 12 (by decide +kernel) rfl, ⟨by decide +kernel, by decide +kernel, by decide +kernel⟩, by decide +kernel, by decide +kernel⟩
theorem k_JS_checkIndex : hg_YK Y_JS_checkIndex 2 := ⟨hg_in 422 (by decide +kernel) rfl, hg_in 12 (by decide +kernel) rfl, ⟨by decide +kernel, by decide +kernel, by decide +kernel⟩, by decide +kernel, by decide +kernel⟩
theorem k_JL_charAt : hg_YK Y_JL_charAt 2 := ⟨hg_in 419 (by decide +kernel) rfl, hg_in 13 (by decide +kernel) rfl, ⟨by decide +kernel, by decide +kernel, by decide +kernel⟩, by decide +kernel, by decide +kernel⟩
theorem k_JL_canEncode : hg_YK Y_JL_canEncode 1 := ⟨hg_in 488 (by decide +kernel) rfl, hg_in 13 (by decide +kernel) rfl, ⟨by decide +kernel, by decide +kernel, by decide +kernel⟩, by decide +kernel, by decide +kernel⟩
theorem k_JL_indexOf : hg_YK Y_JL_indexOf 4 := ⟨hg_in 485 (by decide +kernel) rfl, hg_in 13 (by decide +kernel) rfl, ⟨by decide +kernel, by decide +kernel, by decide +kernel⟩, by decide +kernel, by decide +kernel⟩
theorem k_JL_indexOfChar : hg_YK Y_JL_indexOfChar 4 := ⟨hg_in 495 (by decide +kernel) rfl, hg_in 13 (by decide +kernel) rfl, ⟨by decide +kernel, by decide +kernel, by decide +kernel⟩, by decide +kernel, by decide +kernel⟩
theorem k_JP_checkIndex : hg_YK Y_JP_checkIndex 3 := ⟨hg_in 427 (by decide +kernel) rfl, hg_in 14 (by decide +kernel) rfl, ⟨by decide +kernel, by decide +kernel, by decide +kernel⟩, by decide +kernel, by decide +kernel⟩
theorem l_H_1 : Cond.methodLink "HangmanDinner$House" 1 objectInit ∈ hg_T := hg_in 131 (by decide +kernel) rfl
theorem f_H_7 : hg_FL "HangmanDinner$House" 7 0 7 := ⟨by decide, by decide, hg_in 155 (by decide +kernel) rfl⟩
theorem f_H_13 : hg_FL "HangmanDinner$House" 13 0 0 := ⟨by decide, by decide, hg_in 132 (by decide +kernel) rfl⟩
theorem f_H_17 : hg_FL "HangmanDinner$House" 17 0 1 := ⟨by decide, by decide, hg_in 136 (by decide +kernel) rfl⟩
theorem f_H_20 : hg_FL "HangmanDinner$House" 20 0 2 := ⟨by decide, by decide, hg_in 140 (by decide +kernel) rfl⟩
theorem f_H_23 : hg_FL "HangmanDinner$House" 23 0 3 := ⟨by decide, by decide, hg_in 143 (by decide +kernel) rfl⟩
theorem f_H_26 : hg_FL "HangmanDinner$House" 26 0 4 := ⟨by decide, by decide, hg_in 146 (by decide +kernel) rfl⟩
theorem f_H_29 : hg_FL "HangmanDinner$House" 29 0 5 := ⟨by decide, by decide, hg_in 149 (by decide +kernel) rfl⟩
theorem f_H_32 : hg_FL "HangmanDinner$House" 32 0 6 := ⟨by decide, by decide, hg_in 152 (by decide +kernel) rfl⟩
theorem l_H_36 : Cond.methodLink "HangmanDinner$House" 36 ⟨"java/lang/System", "arraycopy", "(Ljava/lang/Object;ILjava/lang/Object;II)V"⟩ ∈ hg_T := hg_in 330 (by decide +kernel) rfl
theorem l_R_3 : Cond.methodLink "HangmanDinner$Reader" 3 objectInit ∈ hg_T := hg_in 50 (by decide +kernel) rfl
theorem f_R_11 : hg_FL "HangmanDinner$Reader" 11 1 0 := ⟨by decide, by decide, hg_in 51 (by decide +kernel) rfl⟩
theorem f_R_15 : hg_FL "HangmanDinner$Reader" 15 1 3 := ⟨by decide, by decide, hg_in 55 (by decide +kernel) rfl⟩
theorem f_R_19 : hg_FL "HangmanDinner$Reader" 19 1 1 := ⟨by decide, by decide, hg_in 52 (by decide +kernel) rfl⟩
theorem f_R_23 : hg_FL "HangmanDinner$Reader" 23 1 2 := ⟨by decide, by decide, hg_in 54 (by decide +kernel) rfl⟩
theorem f_R_26 : hg_FL "HangmanDinner$Reader" 26 1 4 := ⟨by decide, by decide, hg_in 56 (by decide +kernel) rfl⟩
theorem f_R_29 : hg_FL "HangmanDinner$Reader" 29 1 6 := ⟨by decide, by decide, hg_in 58 (by decide +kernel) rfl⟩
theorem l_R_32 : hg_LV "HangmanDinner$Reader" 32 Y_R_clause 0 := ⟨k_R_clause, hg_in 390 (by decide +kernel) rfl, hg_in 392 (by decide +kernel) rfl, hg_inp 4 rfl rfl⟩
theorem l_R_36 : hg_LV "HangmanDinner$Reader" 36 Y_R_sign 1 := ⟨k_R_sign, hg_in 447 (by decide +kernel) rfl, hg_in 449 (by decide +kernel) rfl, hg_inp 6 rfl rfl⟩
theorem n_R_40 : hg_CN "HangmanDinner$Reader" 40 6 := ⟨by decide, hg_in 536 (by decide +kernel) rfl, hg_in 102 (by decide +kernel) rfl, hg_in 5 (by decide +kernel) rfl⟩
theorem l_R_42 : hg_LI "HangmanDinner$Reader" 42 Y_O_init 3 := ⟨k_O_init, hg_in 537 (by decide +kernel) rfl, hg_in 104 (by decide +kernel) rfl, rfl, rfl⟩
theorem l_R_47 : hg_LV "HangmanDinner$Reader" 47 Y_R_word 1 := ⟨k_R_word, hg_in 395 (by decide +kernel) rfl, hg_in 397 (by decide +kernel) rfl, hg_inp 5 rfl rfl⟩
theorem l_R_51 : hg_LV "HangmanDinner$Reader" 51 Y_R_number 0 := ⟨k_R_number, hg_in 451 (by decide +kernel) rfl, hg_in 453 (by decide +kernel) rfl, hg_inp 7 rfl rfl⟩
theorem f_R_54 : hg_FL "HangmanDinner$Reader" 54 1 5 := ⟨by decide, by decide, hg_in 57 (by decide +kernel) rfl⟩
theorem l_R_60 : hg_LV "HangmanDinner$Reader" 60 Y_R_either 1 := ⟨k_R_either, hg_in 457 (by decide +kernel) rfl, hg_in 459 (by decide +kernel) rfl, hg_inp 8 rfl rfl⟩
theorem l_R_64 : hg_LV "HangmanDinner$Reader" 64 Y_R_write 3 := ⟨k_R_write, hg_in 532 (by decide +kernel) rfl, hg_in 534 (by decide +kernel) rfl, hg_inp 12 rfl rfl⟩
theorem l_R_68 : hg_LV "HangmanDinner$Reader" 68 Y_R_both 1 := ⟨k_R_both, hg_in 461 (by decide +kernel) rfl, hg_in 463 (by decide +kernel) rfl, hg_inp 9 rfl rfl⟩
theorem l_R_71 : hg_LV "HangmanDinner$Reader" 71 Y_R_factor 1 := ⟨k_R_factor, hg_in 465 (by decide +kernel) rfl, hg_in 467 (by decide +kernel) rfl, hg_inp 10 rfl rfl⟩
theorem l_R_74 : hg_LV "HangmanDinner$Reader" 74 Y_R_test 0 := ⟨k_R_test, hg_in 469 (by decide +kernel) rfl, hg_in 471 (by decide +kernel) rfl, hg_inp 11 rfl rfl⟩
theorem l_R_79 : hg_LV "HangmanDinner$Reader" 79 Y_JS_indexOf_0 1 := ⟨k_JS_indexOf_0, hg_in 474 (by decide +kernel) rfl, hg_in 475 (by decide +kernel) rfl, hg_in 476 (by decide +kernel) rfl⟩
theorem l_R_87 : hg_LV "HangmanDinner$Reader" 87 Y_JS_length 0 := ⟨k_JS_length, hg_in 399 (by decide +kernel) rfl, hg_in 400 (by decide +kernel) rfl, hg_in 401 (by decide +kernel) rfl⟩
theorem l_R_91 : hg_LV "HangmanDinner$Reader" 91 Y_JS_charAt 1 := ⟨k_JS_charAt, hg_in 409 (by decide +kernel) rfl, hg_in 410 (by decide +kernel) rfl, hg_in 411 (by decide +kernel) rfl⟩
theorem l_W_3 : Cond.methodLink "HangmanDinner$Rows" 3 objectInit ∈ hg_T := hg_in 30 (by decide +kernel) rfl
theorem f_W_9 : hg_FL "HangmanDinner$Rows" 9 2 0 := ⟨by decide, by decide, hg_in 31 (by decide +kernel) rfl⟩
theorem f_W_15 : hg_FL "HangmanDinner$Rows" 15 2 1 := ⟨by decide, by decide, hg_in 33 (by decide +kernel) rfl⟩
theorem f_W_18 : hg_FL "HangmanDinner$Rows" 18 2 2 := ⟨by decide, by decide, hg_in 35 (by decide +kernel) rfl⟩
theorem l_W_22 : Cond.methodLink "HangmanDinner$Rows" 22 ⟨"java/lang/System", "arraycopy", "(Ljava/lang/Object;ILjava/lang/Object;II)V"⟩ ∈ hg_T := hg_in 666 (by decide +kernel) rfl
theorem l_S_3 : Cond.methodLink "HangmanDinner$Scene" 3 objectInit ∈ hg_T := hg_in 124 (by decide +kernel) rfl
theorem a_S_9 : Cond.classLink "HangmanDinner$Scene" 9 "HangmanDinner$House" ∈ hg_T := hg_in 125 (by decide +kernel) rfl
theorem f_S_11 : hg_FL "HangmanDinner$Scene" 11 3 0 := ⟨by decide, by decide, hg_in 175 (by decide +kernel) rfl⟩
theorem f_S_17 : hg_FL "HangmanDinner$Scene" 17 3 1 := ⟨by decide, by decide, hg_in 177 (by decide +kernel) rfl⟩
theorem f_S_21 : hg_FL "HangmanDinner$Scene" 21 3 8 := ⟨by decide, by decide, hg_in 191 (by decide +kernel) rfl⟩
theorem f_S_24 : hg_FL "HangmanDinner$Scene" 24 3 7 := ⟨by decide, by decide, hg_in 189 (by decide +kernel) rfl⟩
theorem n_S_9 : hg_CN "HangmanDinner$Scene" 9 0 := ⟨by decide, hg_in 125 (by decide +kernel) rfl, hg_in 127 (by decide +kernel) rfl, hg_in 8 (by decide +kernel) rfl⟩
theorem f_S_29 : hg_FL "HangmanDinner$Scene" 29 3 2 := ⟨by decide, by decide, hg_in 179 (by decide +kernel) rfl⟩
theorem f_S_33 : hg_FL "HangmanDinner$Scene" 33 3 3 := ⟨by decide, by decide, hg_in 181 (by decide +kernel) rfl⟩
theorem f_S_36 : hg_FL "HangmanDinner$Scene" 36 3 4 := ⟨by decide, by decide, hg_in 183 (by decide +kernel) rfl⟩
theorem f_S_39 : hg_FL "HangmanDinner$Scene" 39 3 5 := ⟨by decide, by decide, hg_in 185 (by decide +kernel) rfl⟩
theorem f_S_42 : hg_FL "HangmanDinner$Scene" 42 3 6 := ⟨by decide, by decide, hg_in 187 (by decide +kernel) rfl⟩
theorem l_S_45 : hg_LV "HangmanDinner$Scene" 45 Y_H_become 1 := ⟨k_H_become, hg_in 326 (by decide +kernel) rfl, hg_in 327 (by decide +kernel) rfl, hg_in 328 (by decide +kernel) rfl⟩
theorem l_S_49 : hg_LV "HangmanDinner$Scene" 49 Y_S_has 1 := ⟨k_S_has, hg_in 298 (by decide +kernel) rfl, hg_in 299 (by decide +kernel) rfl, hg_in 300 (by decide +kernel) rfl⟩
theorem l_S_53 : hg_LV "HangmanDinner$Scene" 53 Y_H_begin 3 := ⟨k_H_begin, hg_in 286 (by decide +kernel) rfl, hg_in 287 (by decide +kernel) rfl, hg_in 288 (by decide +kernel) rfl⟩
theorem l_S_57 : hg_LV "HangmanDinner$Scene" 57 Y_S_placeOf 1 := ⟨k_S_placeOf, hg_in 369 (by decide +kernel) rfl, hg_in 349 (by decide +kernel) rfl, hg_in 350 (by decide +kernel) rfl⟩
theorem f_S_61 : hg_FL "HangmanDinner$Scene" 61 0 0 := ⟨by decide, by decide, hg_in 135 (by decide +kernel) rfl⟩
theorem f_S_64 : hg_FL "HangmanDinner$Scene" 64 0 1 := ⟨by decide, by decide, hg_in 139 (by decide +kernel) rfl⟩
theorem f_S_67 : hg_FL "HangmanDinner$Scene" 67 0 3 := ⟨by decide, by decide, hg_in 145 (by decide +kernel) rfl⟩
theorem f_S_70 : hg_FL "HangmanDinner$Scene" 70 0 4 := ⟨by decide, by decide, hg_in 148 (by decide +kernel) rfl⟩
theorem f_S_73 : hg_FL "HangmanDinner$Scene" 73 0 2 := ⟨by decide, by decide, hg_in 142 (by decide +kernel) rfl⟩
theorem l_S_76 : hg_LV "HangmanDinner$Scene" 76 Y_O_fearOf 1 := ⟨k_O_fearOf, hg_in 306 (by decide +kernel) rfl, hg_in 307 (by decide +kernel) rfl, hg_in 308 (by decide +kernel) rfl⟩
theorem l_S_82 : Cond.methodLink "HangmanDinner$Scene" 82 ⟨"java/lang/Math", "min", "(II)I"⟩ ∈ hg_T := hg_in 310 (by decide +kernel) rfl
theorem f_S_88 : hg_FL "HangmanDinner$Scene" 88 0 7 := ⟨by decide, by decide, hg_in 157 (by decide +kernel) rfl⟩
theorem f_S_91 : hg_FL "HangmanDinner$Scene" 91 0 6 := ⟨by decide, by decide, hg_in 154 (by decide +kernel) rfl⟩
theorem l_S_95 : hg_LV "HangmanDinner$Scene" 95 Y_S_dread 1 := ⟨k_S_dread, hg_in 317 (by decide +kernel) rfl, hg_in 303 (by decide +kernel) rfl, hg_in 304 (by decide +kernel) rfl⟩
theorem f_S_98 : hg_FL "HangmanDinner$Scene" 98 6 1 := ⟨by decide, by decide, hg_in 112 (by decide +kernel) rfl⟩
theorem l_S_101 : hg_LV "HangmanDinner$Scene" 101 Y_S_hostPlace 0 := ⟨k_S_hostPlace, hg_in 335 (by decide +kernel) rfl, hg_in 337 (by decide +kernel) rfl, hg_inp 1 rfl rfl⟩
theorem l_S_105 : hg_LV "HangmanDinner$Scene" 105 Y_S_behindPoint 1 := ⟨k_S_behindPoint, hg_in 339 (by decide +kernel) rfl, hg_in 341 (by decide +kernel) rfl, hg_inp 2 rfl rfl⟩
theorem l_S_108 : hg_LV "HangmanDinner$Scene" 108 Y_S_isIll 1 := ⟨k_S_isIll, hg_in 343 (by decide +kernel) rfl, hg_in 314 (by decide +kernel) rfl, hg_in 315 (by decide +kernel) rfl⟩
theorem l_S_111 : hg_LV "HangmanDinner$Scene" 111 Y_S_thursday 0 := ⟨k_S_thursday, hg_in 565 (by decide +kernel) rfl, hg_in 332 (by decide +kernel) rfl, hg_in 333 (by decide +kernel) rfl⟩
theorem l_S_114 : hg_LV "HangmanDinner$Scene" 114 Y_S_dineAt 1 := ⟨k_S_dineAt, hg_in 344 (by decide +kernel) rfl, hg_in 346 (by decide +kernel) rfl, hg_inp 3 rfl rfl⟩
theorem f_S_118 : hg_FL "HangmanDinner$Scene" 118 0 5 := ⟨by decide, by decide, hg_in 151 (by decide +kernel) rfl⟩
theorem l_T_1 : Cond.methodLink "HangmanDinner$Talk" 1 objectInit ∈ hg_T := hg_in 80 (by decide +kernel) rfl
theorem f_T_9 : hg_FL "HangmanDinner$Talk" 9 4 0 := ⟨by decide, by decide, hg_in 81 (by decide +kernel) rfl⟩
theorem s_T_13 : Cond.fieldLink "HangmanDinner$Talk" 13 "HangmanDinner$Talk" "ABOVE" "[I" ∈ hg_T := hg_in 693 (by decide +kernel) rfl
theorem f_T_16 : hg_FL "HangmanDinner$Talk" 16 4 1 := ⟨by decide, by decide, hg_in 83 (by decide +kernel) rfl⟩
theorem l_T_20 : Cond.methodLink "HangmanDinner$Talk" 20 ⟨"java/lang/Math", "min", "(II)I"⟩ ∈ hg_T := hg_in 703 (by decide +kernel) rfl
theorem f_T_26 : hg_FL "HangmanDinner$Talk" 26 4 2 := ⟨by decide, by decide, hg_in 85 (by decide +kernel) rfl⟩
theorem f_T_29 : hg_FL "HangmanDinner$Talk" 29 0 0 := ⟨by decide, by decide, hg_in 134 (by decide +kernel) rfl⟩
theorem f_T_34 : hg_FL "HangmanDinner$Talk" 34 4 3 := ⟨by decide, by decide, hg_in 86 (by decide +kernel) rfl⟩
theorem f_T_35 : hg_FL "HangmanDinner$Talk" 35 0 1 := ⟨by decide, by decide, hg_in 138 (by decide +kernel) rfl⟩
theorem f_T_38 : hg_FL "HangmanDinner$Talk" 38 4 4 := ⟨by decide, by decide, hg_in 87 (by decide +kernel) rfl⟩
theorem l_T_39 : hg_LV "HangmanDinner$Talk" 39 Y_T_find 4 := ⟨k_T_find, hg_in 683 (by decide +kernel) rfl, hg_in 685 (by decide +kernel) rfl, hg_inp 20 rfl rfl⟩
theorem s_T_43 : Cond.fieldLink "HangmanDinner$Talk" 43 "HangmanDinner$Talk" "BODIES" "[I" ∈ hg_T := hg_in 687 (by decide +kernel) rfl
theorem l_T_46 : hg_LV "HangmanDinner$Talk" 46 Y_T_run 4 := ⟨k_T_run, hg_in 689 (by decide +kernel) rfl, hg_in 691 (by decide +kernel) rfl, hg_inp 21 rfl rfl⟩
theorem l_P_1 : Cond.methodLink "HangmanDinner$Tape" 1 objectInit ∈ hg_T := hg_in 215 (by decide +kernel) rfl
theorem f_P_9 : hg_FL "HangmanDinner$Tape" 9 5 0 := ⟨by decide, by decide, hg_in 216 (by decide +kernel) rfl⟩
theorem f_P_13 : hg_FL "HangmanDinner$Tape" 13 5 2 := ⟨by decide, by decide, hg_in 219 (by decide +kernel) rfl⟩
theorem f_P_17 : hg_FL "HangmanDinner$Tape" 17 5 1 := ⟨by decide, by decide, hg_in 218 (by decide +kernel) rfl⟩
theorem l_O_1 : Cond.methodLink "HangmanDinner$Town" 1 objectInit ∈ hg_T := hg_in 106 (by decide +kernel) rfl
theorem f_O_7 : hg_FL "HangmanDinner$Town" 7 6 0 := ⟨by decide, by decide, hg_in 110 (by decide +kernel) rfl⟩
theorem l_O_13 : Cond.methodLink "HangmanDinner$Town" 13 ⟨"java/lang/System", "arraycopy", "(Ljava/lang/Object;ILjava/lang/Object;II)V"⟩ ∈ hg_T := hg_in 107 (by decide +kernel) rfl
theorem f_O_19 : hg_FL "HangmanDinner$Town" 19 6 1 := ⟨by decide, by decide, hg_in 111 (by decide +kernel) rfl⟩
theorem l_D_3 : Cond.methodLink "HangmanDinner" 3 objectInit ∈ hg_T := hg_in 22 (by decide +kernel) rfl
theorem n_D_9 : hg_CN "HangmanDinner" 9 2 := ⟨by decide, hg_in 25 (by decide +kernel) rfl, hg_in 26 (by decide +kernel) rfl, hg_in 2 (by decide +kernel) rfl⟩
theorem l_D_13 : hg_LI "HangmanDinner" 13 Y_W_init 1 := ⟨k_W_init, hg_in 27 (by decide +kernel) rfl, hg_in 28 (by decide +kernel) rfl, rfl, rfl⟩
theorem f_D_16 : hg_FL "HangmanDinner" 16 7 3 := ⟨by decide, by decide, hg_in 232 (by decide +kernel) rfl⟩
theorem f_D_20 : hg_FL "HangmanDinner" 20 7 4 := ⟨by decide, by decide, hg_in 233 (by decide +kernel) rfl⟩
theorem f_D_23 : hg_FL "HangmanDinner" 23 7 5 := ⟨by decide, by decide, hg_in 234 (by decide +kernel) rfl⟩
theorem f_D_26 : hg_FL "HangmanDinner" 26 7 6 := ⟨by decide, by decide, hg_in 235 (by decide +kernel) rfl⟩
theorem f_D_29 : hg_FL "HangmanDinner" 29 7 7 := ⟨by decide, by decide, hg_in 236 (by decide +kernel) rfl⟩
theorem f_D_32 : hg_FL "HangmanDinner" 32 7 8 := ⟨by decide, by decide, hg_in 237 (by decide +kernel) rfl⟩
theorem n_D_35 : hg_CN "HangmanDinner" 35 1 := ⟨by decide, hg_in 45 (by decide +kernel) rfl, hg_in 46 (by decide +kernel) rfl, hg_in 3 (by decide +kernel) rfl⟩
theorem f_D_38 : hg_FL "HangmanDinner" 38 7 10 := ⟨by decide, by decide, hg_in 239 (by decide +kernel) rfl⟩
theorem n_D_42 : hg_CN "HangmanDinner" 42 4 := ⟨by decide, hg_in 75 (by decide +kernel) rfl, hg_in 76 (by decide +kernel) rfl, hg_in 4 (by decide +kernel) rfl⟩
theorem f_D_45 : hg_FL "HangmanDinner" 45 7 12 := ⟨by decide, by decide, hg_in 241 (by decide +kernel) rfl⟩
theorem a_D_49 : Cond.classLink "HangmanDinner" 49 "HangmanDinner$Tape" ∈ hg_T := hg_in 99 (by decide +kernel) rfl
theorem f_D_51 : hg_FL "HangmanDinner" 51 7 13 := ⟨by decide, by decide, hg_in 242 (by decide +kernel) rfl⟩
theorem f_D_55 : hg_FL "HangmanDinner" 55 7 14 := ⟨by decide, by decide, hg_in 243 (by decide +kernel) rfl⟩
theorem n_D_59 : hg_CN "HangmanDinner" 59 6 := ⟨by decide, hg_in 101 (by decide +kernel) rfl, hg_in 102 (by decide +kernel) rfl, hg_in 5 (by decide +kernel) rfl⟩
theorem l_D_61 : hg_LI "HangmanDinner" 61 Y_O_init 3 := ⟨k_O_init, hg_in 103 (by decide +kernel) rfl, hg_in 104 (by decide +kernel) rfl, rfl, rfl⟩
theorem n_D_64 : hg_CN "HangmanDinner" 64 3 := ⟨by decide, hg_in 119 (by decide +kernel) rfl, hg_in 120 (by decide +kernel) rfl, hg_in 7 (by decide +kernel) rfl⟩
theorem l_D_66 : hg_LI "HangmanDinner" 66 Y_S_init 1 := ⟨k_S_init, hg_in 121 (by decide +kernel) rfl, hg_in 122 (by decide +kernel) rfl, rfl, rfl⟩
theorem f_D_69 : hg_FL "HangmanDinner" 69 7 0 := ⟨by decide, by decide, hg_in 229 (by decide +kernel) rfl⟩
theorem f_D_73 : hg_FL "HangmanDinner" 73 7 1 := ⟨by decide, by decide, hg_in 230 (by decide +kernel) rfl⟩
theorem f_D_76 : hg_FL "HangmanDinner" 76 7 2 := ⟨by decide, by decide, hg_in 231 (by decide +kernel) rfl⟩
theorem n_D_49 : hg_CN "HangmanDinner" 49 5 := ⟨by decide, hg_in 99 (by decide +kernel) rfl, hg_in 211 (by decide +kernel) rfl, hg_in 9 (by decide +kernel) rfl⟩
theorem l_D_80 : hg_LS "HangmanDinner" 80 Y_D_within 2 := ⟨k_D_within, hg_in 279 (by decide +kernel) rfl, hg_in 280 (by decide +kernel) rfl⟩
theorem l_D_84 : hg_LV "HangmanDinner" 84 Y_S_add 3 := ⟨k_S_add, hg_in 282 (by decide +kernel) rfl, hg_in 283 (by decide +kernel) rfl, hg_in 284 (by decide +kernel) rfl⟩
theorem l_D_88 : hg_LV "HangmanDinner" 88 Y_S_at 1 := ⟨k_S_at, hg_in 294 (by decide +kernel) rfl, hg_in 295 (by decide +kernel) rfl, hg_in 296 (by decide +kernel) rfl⟩
theorem f_D_92 : hg_FL "HangmanDinner" 92 0 0 := ⟨by decide, by decide, hg_in 133 (by decide +kernel) rfl⟩
theorem f_D_98 : hg_FL "HangmanDinner" 98 0 1 := ⟨by decide, by decide, hg_in 137 (by decide +kernel) rfl⟩
theorem f_D_101 : hg_FL "HangmanDinner" 101 0 2 := ⟨by decide, by decide, hg_in 141 (by decide +kernel) rfl⟩
theorem f_D_104 : hg_FL "HangmanDinner" 104 0 3 := ⟨by decide, by decide, hg_in 144 (by decide +kernel) rfl⟩
theorem f_D_107 : hg_FL "HangmanDinner" 107 0 4 := ⟨by decide, by decide, hg_in 147 (by decide +kernel) rfl⟩
theorem f_D_110 : hg_FL "HangmanDinner" 110 0 5 := ⟨by decide, by decide, hg_in 150 (by decide +kernel) rfl⟩
theorem f_D_113 : hg_FL "HangmanDinner" 113 0 6 := ⟨by decide, by decide, hg_in 153 (by decide +kernel) rfl⟩
theorem l_D_117 : hg_LV "HangmanDinner" 117 Y_S_dread 1 := ⟨k_S_dread, hg_in 302 (by decide +kernel) rfl, hg_in 303 (by decide +kernel) rfl, hg_in 304 (by decide +kernel) rfl⟩
theorem l_D_121 : hg_LV "HangmanDinner" 121 Y_S_isIll 1 := ⟨k_S_isIll, hg_in 313 (by decide +kernel) rfl, hg_in 314 (by decide +kernel) rfl, hg_in 315 (by decide +kernel) rfl⟩
theorem l_D_125 : hg_LV "HangmanDinner" 125 Y_D_comes 1 := ⟨k_D_comes, hg_in 318 (by decide +kernel) rfl, hg_in 320 (by decide +kernel) rfl, hg_inp 0 rfl rfl⟩
theorem l_D_128 : hg_LV "HangmanDinner" 128 Y_S_placeOf 1 := ⟨k_S_placeOf, hg_in 348 (by decide +kernel) rfl, hg_in 349 (by decide +kernel) rfl, hg_in 350 (by decide +kernel) rfl⟩
theorem l_D_131 : hg_LV "HangmanDinner" 131 Y_S_has 1 := ⟨k_S_has, hg_in 364 (by decide +kernel) rfl, hg_in 299 (by decide +kernel) rfl, hg_in 300 (by decide +kernel) rfl⟩
theorem l_D_134 : hg_LV "HangmanDinner" 134 Y_S_change 2 := ⟨k_S_change, hg_in 365 (by decide +kernel) rfl, hg_in 366 (by decide +kernel) rfl, hg_in 367 (by decide +kernel) rfl⟩
theorem f_D_138 : hg_FL "HangmanDinner" 138 0 7 := ⟨by decide, by decide, hg_in 156 (by decide +kernel) rfl⟩
theorem l_D_141 : hg_LV "HangmanDinner" 141 Y_R_add 1 := ⟨k_R_add, hg_in 378 (by decide +kernel) rfl, hg_in 379 (by decide +kernel) rfl, hg_in 380 (by decide +kernel) rfl⟩
theorem f_D_143 : hg_FL "HangmanDinner" 143 7 11 := ⟨by decide, by decide, hg_in 240 (by decide +kernel) rfl⟩
theorem l_D_146 : hg_LV "HangmanDinner" 146 Y_R_understand 0 := ⟨k_R_understand, hg_in 386 (by decide +kernel) rfl, hg_in 387 (by decide +kernel) rfl, hg_in 388 (by decide +kernel) rfl⟩
theorem l_D_150 : hg_LV "HangmanDinner" 150 Y_R_place 0 := ⟨k_R_place, hg_in 538 (by decide +kernel) rfl, hg_in 539 (by decide +kernel) rfl, hg_in 540 (by decide +kernel) rfl⟩
theorem f_D_154 : hg_FL "HangmanDinner" 154 3 7 := ⟨by decide, by decide, hg_in 190 (by decide +kernel) rfl⟩
theorem f_D_158 : hg_FL "HangmanDinner" 158 3 6 := ⟨by decide, by decide, hg_in 188 (by decide +kernel) rfl⟩
theorem f_D_161 : hg_FL "HangmanDinner" 161 6 1 := ⟨by decide, by decide, hg_in 113 (by decide +kernel) rfl⟩
theorem f_D_164 : hg_FL "HangmanDinner" 164 3 3 := ⟨by decide, by decide, hg_in 182 (by decide +kernel) rfl⟩
theorem f_D_167 : hg_FL "HangmanDinner" 167 3 4 := ⟨by decide, by decide, hg_in 184 (by decide +kernel) rfl⟩
theorem f_D_170 : hg_FL "HangmanDinner" 170 3 5 := ⟨by decide, by decide, hg_in 186 (by decide +kernel) rfl⟩
theorem l_D_173 : hg_LV "HangmanDinner" 173 Y_S_host 0 := ⟨k_S_host, hg_in 546 (by decide +kernel) rfl, hg_in 547 (by decide +kernel) rfl, hg_in 548 (by decide +kernel) rfl⟩
theorem l_D_176 : hg_LS "HangmanDinner" 176 Y_D_orNotThere 1 := ⟨k_D_orNotThere, hg_in 550 (by decide +kernel) rfl, hg_in 551 (by decide +kernel) rfl⟩
theorem l_D_179 : hg_LV "HangmanDinner" 179 Y_D_illOnes 0 := ⟨k_D_illOnes, hg_in 553 (by decide +kernel) rfl, hg_in 555 (by decide +kernel) rfl, hg_inp 13 rfl rfl⟩
theorem f_D_182 : hg_FL "HangmanDinner" 182 3 1 := ⟨by decide, by decide, hg_in 178 (by decide +kernel) rfl⟩
theorem f_D_185 : hg_FL "HangmanDinner" 185 3 2 := ⟨by decide, by decide, hg_in 180 (by decide +kernel) rfl⟩
theorem l_D_188 : hg_LV "HangmanDinner" 188 Y_S_thursdays 1 := ⟨k_S_thursdays, hg_in 561 (by decide +kernel) rfl, hg_in 562 (by decide +kernel) rfl, hg_in 563 (by decide +kernel) rfl⟩
theorem l_D_191 : hg_LV "HangmanDinner" 191 Y_S_become 1 := ⟨k_S_become, hg_in 322 (by decide +kernel) rfl, hg_in 323 (by decide +kernel) rfl, hg_in 324 (by decide +kernel) rfl⟩
theorem f_D_195 : hg_FL "HangmanDinner" 195 3 0 := ⟨by decide, by decide, hg_in 176 (by decide +kernel) rfl⟩
theorem l_D_199 : hg_LV "HangmanDinner" 199 Y_S_thursday 0 := ⟨k_S_thursday, hg_in 331 (by decide +kernel) rfl, hg_in 332 (by decide +kernel) rfl, hg_in 333 (by decide +kernel) rfl⟩
theorem l_D_202 : hg_LV "HangmanDinner" 202 Y_D_openOnes 0 := ⟨k_D_openOnes, hg_in 578 (by decide +kernel) rfl, hg_in 580 (by decide +kernel) rfl, hg_inp 14 rfl rfl⟩
theorem l_D_205 : hg_LV "HangmanDinner" 205 Y_D_dineBySet 2 := ⟨k_D_dineBySet, hg_in 582 (by decide +kernel) rfl, hg_in 584 (by decide +kernel) rfl, hg_inp 15 rfl rfl⟩
theorem l_D_208 : hg_LV "HangmanDinner" 208 Y_D_rests 2 := ⟨k_D_rests, hg_in 586 (by decide +kernel) rfl, hg_in 588 (by decide +kernel) rfl, hg_inp 16 rfl rfl⟩
theorem l_D_211 : hg_LV "HangmanDinner" 211 Y_W_empty 0 := ⟨k_W_empty, hg_in 594 (by decide +kernel) rfl, hg_in 595 (by decide +kernel) rfl, hg_in 596 (by decide +kernel) rfl⟩
theorem l_D_214 : hg_LV "HangmanDinner" 214 Y_W_add 2 := ⟨k_W_add, hg_in 598 (by decide +kernel) rfl, hg_in 599 (by decide +kernel) rfl, hg_in 600 (by decide +kernel) rfl⟩
theorem l_D_217 : hg_LV "HangmanDinner" 217 Y_D_allSeenGoesSo 0 := ⟨k_D_allSeenGoesSo, hg_in 606 (by decide +kernel) rfl, hg_in 608 (by decide +kernel) rfl, hg_inp 17 rfl rfl⟩
theorem f_D_221 : hg_FL "HangmanDinner" 221 2 2 := ⟨by decide, by decide, hg_in 36 (by decide +kernel) rfl⟩
theorem f_D_222 : hg_FL "HangmanDinner" 222 2 0 := ⟨by decide, by decide, hg_in 32 (by decide +kernel) rfl⟩
theorem l_D_225 : Cond.methodLink "HangmanDinner" 225 ⟨"java/lang/Math", "max", "(II)I"⟩ ∈ hg_T := hg_in 610 (by decide +kernel) rfl
theorem f_D_230 : hg_FL "HangmanDinner" 230 2 1 := ⟨by decide, by decide, hg_in 34 (by decide +kernel) rfl⟩
theorem l_D_235 : hg_LS "HangmanDinner" 235 Y_D_lowest 3 := ⟨k_D_lowest, hg_in 616 (by decide +kernel) rfl, hg_in 617 (by decide +kernel) rfl⟩
theorem l_D_239 : hg_LS "HangmanDinner" 239 Y_D_divisor 2 := ⟨k_D_divisor, hg_in 619 (by decide +kernel) rfl, hg_in 620 (by decide +kernel) rfl⟩
theorem l_D_242 : hg_LV "HangmanDinner" 242 Y_D_goAsPlanned 2 := ⟨k_D_goAsPlanned, hg_in 634 (by decide +kernel) rfl, hg_in 636 (by decide +kernel) rfl, hg_inp 18 rfl rfl⟩
theorem l_D_245 : hg_LV "HangmanDinner" 245 Y_D_tapeAt 1 := ⟨k_D_tapeAt, hg_in 650 (by decide +kernel) rfl, hg_in 652 (by decide +kernel) rfl, hg_inp 19 rfl rfl⟩
theorem f_D_249 : hg_FL "HangmanDinner" 249 5 0 := ⟨by decide, by decide, hg_in 217 (by decide +kernel) rfl⟩
theorem l_D_252 : hg_LV "HangmanDinner" 252 Y_P_has 1 := ⟨k_P_has, hg_in 654 (by decide +kernel) rfl, hg_in 655 (by decide +kernel) rfl, hg_in 656 (by decide +kernel) rfl⟩
theorem f_D_253 : hg_FL "HangmanDinner" 253 5 2 := ⟨by decide, by decide, hg_in 220 (by decide +kernel) rfl⟩
theorem l_D_257 : hg_LV "HangmanDinner" 257 Y_W_become 1 := ⟨k_W_become, hg_in 662 (by decide +kernel) rfl, hg_in 663 (by decide +kernel) rfl, hg_in 664 (by decide +kernel) rfl⟩
theorem f_D_260 : hg_FL "HangmanDinner" 260 7 9 := ⟨by decide, by decide, hg_in 238 (by decide +kernel) rfl⟩
theorem l_D_263 : hg_LV "HangmanDinner" 263 Y_T_forget 0 := ⟨k_T_forget, hg_in 675 (by decide +kernel) rfl, hg_in 676 (by decide +kernel) rfl, hg_in 677 (by decide +kernel) rfl⟩
theorem l_D_266 : hg_LV "HangmanDinner" 266 Y_T_start 4 := ⟨k_T_start, hg_in 679 (by decide +kernel) rfl, hg_in 680 (by decide +kernel) rfl, hg_in 681 (by decide +kernel) rfl⟩
theorem l_D_270 : hg_LV "HangmanDinner" 270 Y_T_kept 0 := ⟨k_T_kept, hg_in 699 (by decide +kernel) rfl, hg_in 700 (by decide +kernel) rfl, hg_in 701 (by decide +kernel) rfl⟩
theorem f_D_273 : hg_FL "HangmanDinner" 273 4 0 := ⟨by decide, by decide, hg_in 82 (by decide +kernel) rfl⟩
theorem l_D_276 : hg_LS "HangmanDinner" 276 Y_T_isUnder 2 := ⟨k_T_isUnder, hg_in 708 (by decide +kernel) rfl, hg_in 709 (by decide +kernel) rfl⟩
theorem f_D_279 : hg_FL "HangmanDinner" 279 1 1 := ⟨by decide, by decide, hg_in 53 (by decide +kernel) rfl⟩
theorem f_D_280 : hg_FL "HangmanDinner" 280 4 1 := ⟨by decide, by decide, hg_in 84 (by decide +kernel) rfl⟩
theorem l_D_283 : hg_LV "HangmanDinner" 283 Y_P_hold 2 := ⟨k_P_hold, hg_in 719 (by decide +kernel) rfl, hg_in 720 (by decide +kernel) rfl, hg_in 721 (by decide +kernel) rfl⟩
theorem l_D_286 : hg_LV "HangmanDinner" 286 Y_P_cut 1 := ⟨k_P_cut, hg_in 727 (by decide +kernel) rfl, hg_in 728 (by decide +kernel) rfl, hg_in 729 (by decide +kernel) rfl⟩
theorem l_D_290 : hg_LV "HangmanDinner" 290 Y_P_hasAll 2 := ⟨k_P_hasAll, hg_in 739 (by decide +kernel) rfl, hg_in 740 (by decide +kernel) rfl, hg_in 741 (by decide +kernel) rfl⟩
theorem l_D_293 : Cond.methodLink "HangmanDinner" 293 ⟨"java/lang/System", "arraycopy", "(Ljava/lang/Object;ILjava/lang/Object;II)V"⟩ ∈ hg_T := hg_in 743 (by decide +kernel) rfl
theorem l_M_3 : Cond.methodLink "HangmanDinnerModel" 3 objectInit ∈ hg_T := hg_in 749 (by decide +kernel) rfl
theorem f_M_9 : hg_FL "HangmanDinnerModel" 9 8 1 := ⟨by decide, by decide, hg_in 751 (by decide +kernel) rfl⟩
theorem f_M_15 : hg_FL "HangmanDinnerModel" 15 8 2 := ⟨by decide, by decide, hg_in 752 (by decide +kernel) rfl⟩
theorem f_M_18 : hg_FL "HangmanDinnerModel" 18 8 3 := ⟨by decide, by decide, hg_in 753 (by decide +kernel) rfl⟩
theorem f_M_21 : hg_FL "HangmanDinnerModel" 21 8 4 := ⟨by decide, by decide, hg_in 754 (by decide +kernel) rfl⟩
theorem f_M_24 : hg_FL "HangmanDinnerModel" 24 8 5 := ⟨by decide, by decide, hg_in 755 (by decide +kernel) rfl⟩
theorem f_M_27 : hg_FL "HangmanDinnerModel" 27 8 6 := ⟨by decide, by decide, hg_in 756 (by decide +kernel) rfl⟩
theorem f_M_30 : hg_FL "HangmanDinnerModel" 30 8 7 := ⟨by decide, by decide, hg_in 757 (by decide +kernel) rfl⟩
theorem f_M_33 : hg_FL "HangmanDinnerModel" 33 8 8 := ⟨by decide, by decide, hg_in 758 (by decide +kernel) rfl⟩
theorem f_M_36 : hg_FL "HangmanDinnerModel" 36 8 9 := ⟨by decide, by decide, hg_in 759 (by decide +kernel) rfl⟩
theorem f_M_39 : hg_FL "HangmanDinnerModel" 39 8 15 := ⟨by decide, by decide, hg_in 765 (by decide +kernel) rfl⟩
theorem f_M_42 : hg_FL "HangmanDinnerModel" 42 8 22 := ⟨by decide, by decide, hg_in 772 (by decide +kernel) rfl⟩
theorem f_M_45 : hg_FL "HangmanDinnerModel" 45 8 23 := ⟨by decide, by decide, hg_in 773 (by decide +kernel) rfl⟩
theorem f_M_48 : hg_FL "HangmanDinnerModel" 48 8 24 := ⟨by decide, by decide, hg_in 774 (by decide +kernel) rfl⟩
theorem f_M_51 : hg_FL "HangmanDinnerModel" 51 8 25 := ⟨by decide, by decide, hg_in 775 (by decide +kernel) rfl⟩
theorem f_M_54 : hg_FL "HangmanDinnerModel" 54 8 26 := ⟨by decide, by decide, hg_in 776 (by decide +kernel) rfl⟩
theorem f_M_57 : hg_FL "HangmanDinnerModel" 57 8 27 := ⟨by decide, by decide, hg_in 777 (by decide +kernel) rfl⟩
theorem f_M_60 : hg_FL "HangmanDinnerModel" 60 8 29 := ⟨by decide, by decide, hg_in 779 (by decide +kernel) rfl⟩
theorem f_M_64 : hg_FL "HangmanDinnerModel" 64 8 31 := ⟨by decide, by decide, hg_in 781 (by decide +kernel) rfl⟩
theorem f_M_67 : hg_FL "HangmanDinnerModel" 67 8 32 := ⟨by decide, by decide, hg_in 782 (by decide +kernel) rfl⟩
theorem f_M_70 : hg_FL "HangmanDinnerModel" 70 8 34 := ⟨by decide, by decide, hg_in 784 (by decide +kernel) rfl⟩
theorem f_M_73 : hg_FL "HangmanDinnerModel" 73 8 35 := ⟨by decide, by decide, hg_in 785 (by decide +kernel) rfl⟩
theorem f_M_76 : hg_FL "HangmanDinnerModel" 76 8 37 := ⟨by decide, by decide, hg_in 787 (by decide +kernel) rfl⟩
theorem f_M_79 : hg_FL "HangmanDinnerModel" 79 8 38 := ⟨by decide, by decide, hg_in 788 (by decide +kernel) rfl⟩
theorem f_M_82 : hg_FL "HangmanDinnerModel" 82 8 40 := ⟨by decide, by decide, hg_in 790 (by decide +kernel) rfl⟩
theorem f_M_85 : hg_FL "HangmanDinnerModel" 85 8 42 := ⟨by decide, by decide, hg_in 792 (by decide +kernel) rfl⟩
theorem f_M_88 : hg_FL "HangmanDinnerModel" 88 8 43 := ⟨by decide, by decide, hg_in 793 (by decide +kernel) rfl⟩
theorem f_M_91 : hg_FL "HangmanDinnerModel" 91 8 44 := ⟨by decide, by decide, hg_in 794 (by decide +kernel) rfl⟩
theorem f_M_94 : hg_FL "HangmanDinnerModel" 94 8 45 := ⟨by decide, by decide, hg_in 795 (by decide +kernel) rfl⟩
theorem f_M_97 : hg_FL "HangmanDinnerModel" 97 8 46 := ⟨by decide, by decide, hg_in 796 (by decide +kernel) rfl⟩
theorem f_M_100 : hg_FL "HangmanDinnerModel" 100 8 47 := ⟨by decide, by decide, hg_in 797 (by decide +kernel) rfl⟩
theorem f_M_104 : hg_FL "HangmanDinnerModel" 104 8 21 := ⟨by decide, by decide, hg_in 771 (by decide +kernel) rfl⟩
theorem f_M_108 : hg_FL "HangmanDinnerModel" 108 8 0 := ⟨by decide, by decide, hg_in 750 (by decide +kernel) rfl⟩
theorem l_M_111 : hg_LS "HangmanDinnerModel" 111 Y_M_within 3 := ⟨k_M_within, hg_in 900 (by decide +kernel) rfl, hg_in 901 (by decide +kernel) rfl⟩
theorem l_M_115 : hg_LV "HangmanDinnerModel" 115 Y_M_isOne 1 := ⟨k_M_isOne, hg_in 907 (by decide +kernel) rfl, hg_in 909 (by decide +kernel) rfl, hg_inp 22 rfl rfl⟩
theorem l_M_119 : hg_LV "HangmanDinnerModel" 119 Y_M_dread 1 := ⟨k_M_dread, hg_in 911 (by decide +kernel) rfl, hg_in 913 (by decide +kernel) rfl, hg_inp 23 rfl rfl⟩
theorem l_M_123 : hg_LV "HangmanDinnerModel" 123 Y_M_isIll 1 := ⟨k_M_isIll, hg_in 928 (by decide +kernel) rfl, hg_in 930 (by decide +kernel) rfl, hg_inp 27 rfl rfl⟩
theorem l_M_126 : hg_LV "HangmanDinnerModel" 126 Y_M_comesTo 1 := ⟨k_M_comesTo, hg_in 936 (by decide +kernel) rfl, hg_in 938 (by decide +kernel) rfl, hg_inp 29 rfl rfl⟩
theorem l_M_129 : hg_LV "HangmanDinnerModel" 129 Y_M_placeOf 1 := ⟨k_M_placeOf, hg_in 967 (by decide +kernel) rfl, hg_in 969 (by decide +kernel) rfl, hg_inp 36 rfl rfl⟩
theorem l_M_132 : hg_LV "HangmanDinnerModel" 132 Y_M_swaps 2 := ⟨k_M_swaps, hg_in 983 (by decide +kernel) rfl, hg_in 985 (by decide +kernel) rfl, hg_inp 37 rfl rfl⟩
theorem f_M_136 : hg_FL "HangmanDinnerModel" 136 8 14 := ⟨by decide, by decide, hg_in 764 (by decide +kernel) rfl⟩
theorem f_M_139 : hg_FL "HangmanDinnerModel" 139 8 16 := ⟨by decide, by decide, hg_in 766 (by decide +kernel) rfl⟩
theorem f_M_142 : hg_FL "HangmanDinnerModel" 142 8 17 := ⟨by decide, by decide, hg_in 767 (by decide +kernel) rfl⟩
theorem f_M_145 : hg_FL "HangmanDinnerModel" 145 8 18 := ⟨by decide, by decide, hg_in 768 (by decide +kernel) rfl⟩
theorem l_M_148 : hg_LV "HangmanDinnerModel" 148 Y_M_isDigit 0 := ⟨k_M_isDigit, hg_in 1020 (by decide +kernel) rfl, hg_in 1022 (by decide +kernel) rfl, hg_inp 42 rfl rfl⟩
theorem l_M_152 : hg_LV "HangmanDinnerModel" 152 Y_JS_length 0 := ⟨k_JS_length, hg_in 1008 (by decide +kernel) rfl, hg_in 400 (by decide +kernel) rfl, hg_in 401 (by decide +kernel) rfl⟩
theorem l_M_157 : hg_LV "HangmanDinnerModel" 157 Y_JS_charAt 1 := ⟨k_JS_charAt, hg_in 1009 (by decide +kernel) rfl, hg_in 410 (by decide +kernel) rfl, hg_in 411 (by decide +kernel) rfl⟩
theorem l_M_161 : hg_LV "HangmanDinnerModel" 161 Y_M_is 1 := ⟨k_M_is, hg_in 1010 (by decide +kernel) rfl, hg_in 1012 (by decide +kernel) rfl, hg_inp 40 rfl rfl⟩
theorem f_M_164 : hg_FL "HangmanDinnerModel" 164 8 28 := ⟨by decide, by decide, hg_in 778 (by decide +kernel) rfl⟩
theorem l_M_169 : hg_LV "HangmanDinnerModel" 169 Y_JS_indexOf_0 1 := ⟨k_JS_indexOf_0, hg_in 1049 (by decide +kernel) rfl, hg_in 475 (by decide +kernel) rfl, hg_in 476 (by decide +kernel) rfl⟩
theorem l_M_174 : hg_LV "HangmanDinnerModel" 174 Y_M_isNumber 0 := ⟨k_M_isNumber, hg_in 1016 (by decide +kernel) rfl, hg_in 1018 (by decide +kernel) rfl, hg_inp 41 rfl rfl⟩
theorem l_M_177 : hg_LV "HangmanDinnerModel" 177 Y_M_codes 1 := ⟨k_M_codes, hg_in 1040 (by decide +kernel) rfl, hg_in 1042 (by decide +kernel) rfl, hg_inp 47 rfl rfl⟩
theorem f_M_180 : hg_FL "HangmanDinnerModel" 180 8 19 := ⟨by decide, by decide, hg_in 769 (by decide +kernel) rfl⟩
theorem l_M_183 : hg_LV "HangmanDinnerModel" 183 Y_M_isOpened 1 := ⟨k_M_isOpened, hg_in 1036 (by decide +kernel) rfl, hg_in 1038 (by decide +kernel) rfl, hg_inp 46 rfl rfl⟩
theorem l_M_186 : hg_LV "HangmanDinnerModel" 186 Y_M_isF 0 := ⟨k_M_isF, hg_in 1032 (by decide +kernel) rfl, hg_in 1034 (by decide +kernel) rfl, hg_inp 45 rfl rfl⟩
theorem l_M_189 : hg_LV "HangmanDinnerModel" 189 Y_M_isE 0 := ⟨k_M_isE, hg_in 1024 (by decide +kernel) rfl, hg_in 1026 (by decide +kernel) rfl, hg_inp 43 rfl rfl⟩
theorem l_M_192 : hg_LV "HangmanDinnerModel" 192 Y_M_isTest 0 := ⟨k_M_isTest, hg_in 1044 (by decide +kernel) rfl, hg_in 1046 (by decide +kernel) rfl, hg_inp 48 rfl rfl⟩
theorem l_M_195 : hg_LV "HangmanDinnerModel" 195 Y_M_isT 0 := ⟨k_M_isT, hg_in 1028 (by decide +kernel) rfl, hg_in 1030 (by decide +kernel) rfl, hg_inp 44 rfl rfl⟩
theorem l_M_200 : hg_LV "HangmanDinnerModel" 200 Y_M_isAll 1 := ⟨k_M_isAll, hg_in 1004 (by decide +kernel) rfl, hg_in 1006 (by decide +kernel) rfl, hg_inp 39 rfl rfl⟩
theorem f_M_208 : hg_FL "HangmanDinnerModel" 208 8 20 := ⟨by decide, by decide, hg_in 770 (by decide +kernel) rfl⟩
theorem l_M_211 : hg_LV "HangmanDinnerModel" 211 Y_M_isClause 1 := ⟨k_M_isClause, hg_in 999 (by decide +kernel) rfl, hg_in 1001 (by decide +kernel) rfl, hg_inp 38 rfl rfl⟩
theorem f_M_214 : hg_FL "HangmanDinnerModel" 214 8 13 := ⟨by decide, by decide, hg_in 763 (by decide +kernel) rfl⟩
theorem l_M_217 : hg_LV "HangmanDinnerModel" 217 Y_M_letterOf 2 := ⟨k_M_letterOf, hg_in 923 (by decide +kernel) rfl, hg_in 925 (by decide +kernel) rfl, hg_inp 26 rfl rfl⟩
theorem l_M_221 : hg_LV "HangmanDinnerModel" 221 Y_M_isTrue 2 := ⟨k_M_isTrue, hg_in 919 (by decide +kernel) rfl, hg_in 921 (by decide +kernel) rfl, hg_inp 25 rfl rfl⟩
theorem l_M_225 : hg_LV "HangmanDinnerModel" 225 Y_M_sum 1 := ⟨k_M_sum, hg_in 915 (by decide +kernel) rfl, hg_in 917 (by decide +kernel) rfl, hg_inp 24 rfl rfl⟩
theorem l_M_228 : Cond.methodLink "HangmanDinnerModel" 228 ⟨"java/lang/Math", "min", "(II)I"⟩ ∈ hg_T := hg_in 927 (by decide +kernel) rfl
theorem l_M_233 : hg_LV "HangmanDinnerModel" 233 Y_M_illFrom 0 := ⟨k_M_illFrom, hg_in 932 (by decide +kernel) rfl, hg_in 934 (by decide +kernel) rfl, hg_inp 28 rfl rfl⟩
theorem f_M_236 : hg_FL "HangmanDinnerModel" 236 8 10 := ⟨by decide, by decide, hg_in 760 (by decide +kernel) rfl⟩
theorem l_M_239 : hg_LS "HangmanDinnerModel" 239 Y_M_has 2 := ⟨k_M_has, hg_in 956 (by decide +kernel) rfl, hg_in 957 (by decide +kernel) rfl⟩
theorem l_M_242 : hg_LV "HangmanDinnerModel" 242 Y_M_ills 0 := ⟨k_M_ills, hg_in 948 (by decide +kernel) rfl, hg_in 950 (by decide +kernel) rfl, hg_inp 32 rfl rfl⟩
theorem l_M_245 : hg_LV "HangmanDinnerModel" 245 Y_M_placeBy 1 := ⟨k_M_placeBy, hg_in 952 (by decide +kernel) rfl, hg_in 954 (by decide +kernel) rfl, hg_inp 33 rfl rfl⟩
theorem f_M_248 : hg_FL "HangmanDinnerModel" 248 8 11 := ⟨by decide, by decide, hg_in 761 (by decide +kernel) rfl⟩
theorem f_M_251 : hg_FL "HangmanDinnerModel" 251 8 12 := ⟨by decide, by decide, hg_in 762 (by decide +kernel) rfl⟩
theorem l_M_254 : hg_LV "HangmanDinnerModel" 254 Y_M_host 0 := ⟨k_M_host, hg_in 959 (by decide +kernel) rfl, hg_in 961 (by decide +kernel) rfl, hg_inp 34 rfl rfl⟩
theorem l_M_257 : hg_LV "HangmanDinnerModel" 257 Y_M_goesThursday 0 := ⟨k_M_goesThursday, hg_in 944 (by decide +kernel) rfl, hg_in 946 (by decide +kernel) rfl, hg_inp 31 rfl rfl⟩
theorem l_M_260 : hg_LS "HangmanDinnerModel" 260 Y_M_held 1 := ⟨k_M_held, hg_in 1059 (by decide +kernel) rfl, hg_in 1060 (by decide +kernel) rfl⟩
theorem l_M_263 : hg_LV "HangmanDinnerModel" 263 Y_M_keep 1 := ⟨k_M_keep, hg_in 940 (by decide +kernel) rfl, hg_in 942 (by decide +kernel) rfl, hg_inp 30 rfl rfl⟩
theorem l_M_267 : hg_LV "HangmanDinnerModel" 267 Y_M_again 1 := ⟨k_M_again, hg_in 963 (by decide +kernel) rfl, hg_in 965 (by decide +kernel) rfl, hg_inp 35 rfl rfl⟩
theorem l_M_270 : hg_LV "HangmanDinnerModel" 270 Y_M_clashesBehind 1 := ⟨k_M_clashesBehind, hg_in 1070 (by decide +kernel) rfl, hg_in 1072 (by decide +kernel) rfl, hg_inp 49 rfl rfl⟩
theorem l_M_273 : hg_LV "HangmanDinnerModel" 273 Y_M_openOnes 0 := ⟨k_M_openOnes, hg_in 1078 (by decide +kernel) rfl, hg_in 1080 (by decide +kernel) rfl, hg_inp 50 rfl rfl⟩
theorem l_M_276 : hg_LV "HangmanDinnerModel" 276 Y_M_feigns 2 := ⟨k_M_feigns, hg_in 1082 (by decide +kernel) rfl, hg_in 1084 (by decide +kernel) rfl, hg_inp 51 rfl rfl⟩
theorem l_M_279 : hg_LV "HangmanDinnerModel" 279 Y_M_rests 2 := ⟨k_M_rests, hg_in 1086 (by decide +kernel) rfl, hg_in 1088 (by decide +kernel) rfl, hg_inp 52 rfl rfl⟩
theorem f_M_282 : hg_FL "HangmanDinnerModel" 282 8 30 := ⟨by decide, by decide, hg_in 780 (by decide +kernel) rfl⟩
theorem l_M_285 : hg_LV "HangmanDinnerModel" 285 Y_M_isSeen 0 := ⟨k_M_isSeen, hg_in 1098 (by decide +kernel) rfl, hg_in 1100 (by decide +kernel) rfl, hg_inp 53 rfl rfl⟩
theorem l_M_290 : hg_LS "HangmanDinnerModel" 290 Y_M_part 3 := ⟨k_M_part, hg_in 1107 (by decide +kernel) rfl, hg_in 1108 (by decide +kernel) rfl⟩
theorem f_M_294 : hg_FL "HangmanDinnerModel" 294 8 33 := ⟨by decide, by decide, hg_in 783 (by decide +kernel) rfl⟩
theorem f_M_297 : hg_FL "HangmanDinnerModel" 297 8 36 := ⟨by decide, by decide, hg_in 786 (by decide +kernel) rfl⟩
theorem f_M_300 : hg_FL "HangmanDinnerModel" 300 8 41 := ⟨by decide, by decide, hg_in 791 (by decide +kernel) rfl⟩
theorem f_M_304 : hg_FL "HangmanDinnerModel" 304 8 39 := ⟨by decide, by decide, hg_in 789 (by decide +kernel) rfl⟩
theorem l_M_307 : hg_LV "HangmanDinnerModel" 307 Y_M_ran 1 := ⟨k_M_ran, hg_in 1150 (by decide +kernel) rfl, hg_in 1152 (by decide +kernel) rfl, hg_inp 55 rfl rfl⟩
theorem l_M_311 : hg_LV "HangmanDinnerModel" 311 Y_M_asks 3 := ⟨k_M_asks, hg_in 1146 (by decide +kernel) rfl, hg_in 1148 (by decide +kernel) rfl, hg_inp 54 rfl rfl⟩
theorem l_M_315 : hg_LS "HangmanDinnerModel" 315 Y_M_above 1 := ⟨k_M_above, hg_in 1154 (by decide +kernel) rfl, hg_in 1155 (by decide +kernel) rfl⟩
theorem l_M_318 : hg_LV "HangmanDinnerModel" 318 Y_M_talks 3 := ⟨k_M_talks, hg_in 1157 (by decide +kernel) rfl, hg_in 1159 (by decide +kernel) rfl, hg_inp 56 rfl rfl⟩
theorem l_M_321 : hg_LV "HangmanDinnerModel" 321 Y_M_tells 3 := ⟨k_M_tells, hg_in 1161 (by decide +kernel) rfl, hg_in 1163 (by decide +kernel) rfl, hg_inp 57 rfl rfl⟩
theorem l_M_324 : hg_LS "HangmanDinnerModel" 324 Y_M_isTape 1 := ⟨k_M_isTape, hg_in 1181 (by decide +kernel) rfl, hg_in 1182 (by decide +kernel) rfl⟩
theorem l_M_327 : hg_LS "HangmanDinnerModel" 327 Y_M_kept 2 := ⟨k_M_kept, hg_in 1188 (by decide +kernel) rfl, hg_in 1189 (by decide +kernel) rfl⟩
theorem l_JS_335 : hg_LV "java/lang/String" 335 Y_JS_coder 0 := ⟨k_JS_coder, hg_in 403 (by decide +kernel) rfl, hg_in 404 (by decide +kernel) rfl, hg_in 405 (by decide +kernel) rfl⟩
theorem l_JS_492 : hg_LV "java/lang/String" 492 Y_JS_isLatin1 0 := ⟨k_JS_isLatin1, hg_in 413 (by decide +kernel) rfl, hg_in 414 (by decide +kernel) rfl, hg_in 415 (by decide +kernel) rfl⟩
theorem l_JS_495 : hg_LS "java/lang/String" 495 Y_JL_charAt 2 := ⟨k_JL_charAt, hg_in 417 (by decide +kernel) rfl, hg_in 418 (by decide +kernel) rfl⟩
theorem l_JS_633 : hg_LV "java/lang/String" 633 Y_JS_indexOf_1 2 := ⟨k_JS_indexOf_1, hg_in 478 (by decide +kernel) rfl, hg_in 479 (by decide +kernel) rfl, hg_in 480 (by decide +kernel) rfl⟩
theorem l_JS_505 : hg_LV "java/lang/String" 505 Y_JS_length 0 := ⟨k_JS_length, hg_in 482 (by decide +kernel) rfl, hg_in 400 (by decide +kernel) rfl, hg_in 401 (by decide +kernel) rfl⟩
theorem l_JS_637 : hg_LS "java/lang/String" 637 Y_JL_indexOf 4 := ⟨k_JL_indexOf, hg_in 483 (by decide +kernel) rfl, hg_in 484 (by decide +kernel) rfl⟩
theorem s_JS_38 : Cond.fieldLink "java/lang/String" 38 "java/lang/String" "COMPACT_STRINGS" "Z" ∈ hg_T := hg_in 407 (by decide +kernel) rfl
theorem s_JS_1053 : Cond.fieldLink "java/lang/String" 1053 "jdk/internal/util/Preconditions" "SIOOBE_FORMATTER" "Ljava/util/function/BiFunction;" ∈ hg_T := hg_in 423 (by decide +kernel) rfl
theorem l_JS_1059 : hg_LS "java/lang/String" 1059 Y_JP_checkIndex 3 := ⟨k_JP_checkIndex, hg_in 425 (by decide +kernel) rfl, hg_in 426 (by decide +kernel) rfl⟩
theorem l_JL_9 : hg_LS "java/lang/StringLatin1" 9 Y_JS_checkIndex 2 := ⟨k_JS_checkIndex, hg_in 420 (by decide +kernel) rfl, hg_in 421 (by decide +kernel) rfl⟩
theorem l_JL_88 : hg_LS "java/lang/StringLatin1" 88 Y_JL_canEncode 1 := ⟨k_JL_canEncode, hg_in 486 (by decide +kernel) rfl, hg_in 487 (by decide +kernel) rfl⟩
theorem l_JL_92 : Cond.methodLink "java/lang/StringLatin1" 92 ⟨"java/lang/Math", "max", "(II)I"⟩ ∈ hg_T := hg_in 489 (by decide +kernel) rfl
theorem l_JL_38 : Cond.methodLink "java/lang/StringLatin1" 38 ⟨"java/lang/Math", "min", "(II)I"⟩ ∈ hg_T := hg_in 492 (by decide +kernel) rfl
theorem l_JL_95 : hg_LS "java/lang/StringLatin1" 95 Y_JL_indexOfChar 4 := ⟨k_JL_indexOfChar, hg_in 493 (by decide +kernel) rfl, hg_in 494 (by decide +kernel) rfl⟩
theorem n_L_7 : hg_CN "HangmanDinnerLaw" 7 7 := ⟨by decide, hg_in 17 (by decide +kernel) rfl, hg_in 18 (by decide +kernel) rfl, hg_in 1 (by decide +kernel) rfl⟩
theorem l_L_9 : hg_LI "HangmanDinnerLaw" 9 Y_D_init 0 := ⟨k_D_init, hg_in 19 (by decide +kernel) rfl, hg_in 20 (by decide +kernel) rfl, rfl, rfl⟩
theorem n_L_10 : hg_CN "HangmanDinnerLaw" 10 8 := ⟨by decide, hg_in 744 (by decide +kernel) rfl, hg_in 745 (by decide +kernel) rfl, hg_in 10 (by decide +kernel) rfl⟩
theorem l_L_12 : hg_LI "HangmanDinnerLaw" 12 Y_M_init 0 := ⟨k_M_init, hg_in 746 (by decide +kernel) rfl, hg_in 747 (by decide +kernel) rfl, rfl, rfl⟩
theorem l_L_13 : hg_LV "HangmanDinnerLaw" 13 Y_D_house 3 := ⟨k_D_house, hg_in 275 (by decide +kernel) rfl, hg_in 276 (by decide +kernel) rfl, hg_in 277 (by decide +kernel) rfl⟩
theorem l_L_17 : hg_LV "HangmanDinnerLaw" 17 Y_M_house 3 := ⟨k_M_house, hg_in 896 (by decide +kernel) rfl, hg_in 897 (by decide +kernel) rfl, hg_in 898 (by decide +kernel) rfl⟩
theorem l_L_18 : hg_LV "HangmanDinnerLaw" 18 Y_D_of 2 := ⟨k_D_of, hg_in 290 (by decide +kernel) rfl, hg_in 291 (by decide +kernel) rfl, hg_in 292 (by decide +kernel) rfl⟩
theorem l_L_22 : hg_LV "HangmanDinnerLaw" 22 Y_M_of 2 := ⟨k_M_of, hg_in 903 (by decide +kernel) rfl, hg_in 904 (by decide +kernel) rfl, hg_in 905 (by decide +kernel) rfl⟩
theorem l_L_23 : hg_LV "HangmanDinnerLaw" 23 Y_D_set 3 := ⟨k_D_set, hg_in 352 (by decide +kernel) rfl, hg_in 353 (by decide +kernel) rfl, hg_in 354 (by decide +kernel) rfl⟩
theorem l_L_26 : hg_LV "HangmanDinnerLaw" 26 Y_M_set 3 := ⟨k_M_set, hg_in 971 (by decide +kernel) rfl, hg_in 972 (by decide +kernel) rfl, hg_in 973 (by decide +kernel) rfl⟩
theorem l_L_27 : hg_LV "HangmanDinnerLaw" 27 Y_D_shut 2 := ⟨k_D_shut, hg_in 356 (by decide +kernel) rfl, hg_in 357 (by decide +kernel) rfl, hg_in 358 (by decide +kernel) rfl⟩
theorem l_L_31 : hg_LV "HangmanDinnerLaw" 31 Y_M_shut 2 := ⟨k_M_shut, hg_in 975 (by decide +kernel) rfl, hg_in 976 (by decide +kernel) rfl, hg_in 977 (by decide +kernel) rfl⟩
theorem l_L_32 : hg_LV "HangmanDinnerLaw" 32 Y_D_swap 2 := ⟨k_D_swap, hg_in 360 (by decide +kernel) rfl, hg_in 361 (by decide +kernel) rfl, hg_in 362 (by decide +kernel) rfl⟩
theorem l_L_35 : hg_LV "HangmanDinnerLaw" 35 Y_M_swap 2 := ⟨k_M_swap, hg_in 979 (by decide +kernel) rfl, hg_in 980 (by decide +kernel) rfl, hg_in 981 (by decide +kernel) rfl⟩
theorem l_L_36 : hg_LV "HangmanDinnerLaw" 36 Y_D_row 3 := ⟨k_D_row, hg_in 370 (by decide +kernel) rfl, hg_in 371 (by decide +kernel) rfl, hg_in 372 (by decide +kernel) rfl⟩
theorem l_L_39 : hg_LV "HangmanDinnerLaw" 39 Y_M_row 3 := ⟨k_M_row, hg_in 987 (by decide +kernel) rfl, hg_in 988 (by decide +kernel) rfl, hg_in 989 (by decide +kernel) rfl⟩
theorem l_L_40 : hg_LV "HangmanDinnerLaw" 40 Y_D_feed 1 := ⟨k_D_feed, hg_in 374 (by decide +kernel) rfl, hg_in 375 (by decide +kernel) rfl, hg_in 376 (by decide +kernel) rfl⟩
theorem l_L_44 : hg_LV "HangmanDinnerLaw" 44 Y_M_feed 1 := ⟨k_M_feed, hg_in 991 (by decide +kernel) rfl, hg_in 992 (by decide +kernel) rfl, hg_in 993 (by decide +kernel) rfl⟩
theorem l_L_45 : hg_LV "HangmanDinnerLaw" 45 Y_D_town 0 := ⟨k_D_town, hg_in 382 (by decide +kernel) rfl, hg_in 383 (by decide +kernel) rfl, hg_in 384 (by decide +kernel) rfl⟩
theorem l_L_49 : hg_LV "HangmanDinnerLaw" 49 Y_M_town 0 := ⟨k_M_town, hg_in 995 (by decide +kernel) rfl, hg_in 996 (by decide +kernel) rfl, hg_in 997 (by decide +kernel) rfl⟩
theorem l_L_50 : hg_LV "HangmanDinnerLaw" 50 Y_D_told 1 := ⟨k_D_told, hg_in 542 (by decide +kernel) rfl, hg_in 543 (by decide +kernel) rfl, hg_in 544 (by decide +kernel) rfl⟩
theorem l_L_53 : hg_LV "HangmanDinnerLaw" 53 Y_M_told 1 := ⟨k_M_told, hg_in 1051 (by decide +kernel) rfl, hg_in 1052 (by decide +kernel) rfl, hg_in 1053 (by decide +kernel) rfl⟩
theorem l_L_54 : hg_LV "HangmanDinnerLaw" 54 Y_D_pass 1 := ⟨k_D_pass, hg_in 557 (by decide +kernel) rfl, hg_in 558 (by decide +kernel) rfl, hg_in 559 (by decide +kernel) rfl⟩
theorem l_L_57 : hg_LV "HangmanDinnerLaw" 57 Y_M_pass 1 := ⟨k_M_pass, hg_in 1055 (by decide +kernel) rfl, hg_in 1056 (by decide +kernel) rfl, hg_in 1057 (by decide +kernel) rfl⟩
theorem l_L_58 : hg_LV "HangmanDinnerLaw" 58 Y_D_on 2 := ⟨k_D_on, hg_in 566 (by decide +kernel) rfl, hg_in 567 (by decide +kernel) rfl, hg_in 568 (by decide +kernel) rfl⟩
theorem l_L_61 : hg_LV "HangmanDinnerLaw" 61 Y_M_on 2 := ⟨k_M_on, hg_in 1062 (by decide +kernel) rfl, hg_in 1063 (by decide +kernel) rfl, hg_in 1064 (by decide +kernel) rfl⟩
theorem l_L_62 : hg_LV "HangmanDinnerLaw" 62 Y_D_doors 1 := ⟨k_D_doors, hg_in 570 (by decide +kernel) rfl, hg_in 571 (by decide +kernel) rfl, hg_in 572 (by decide +kernel) rfl⟩
theorem l_L_65 : hg_LV "HangmanDinnerLaw" 65 Y_M_doors 1 := ⟨k_M_doors, hg_in 1066 (by decide +kernel) rfl, hg_in 1067 (by decide +kernel) rfl, hg_in 1068 (by decide +kernel) rfl⟩
theorem l_L_66 : hg_LV "HangmanDinnerLaw" 66 Y_D_feign 2 := ⟨k_D_feign, hg_in 574 (by decide +kernel) rfl, hg_in 575 (by decide +kernel) rfl, hg_in 576 (by decide +kernel) rfl⟩
theorem l_L_69 : hg_LV "HangmanDinnerLaw" 69 Y_M_feign 2 := ⟨k_M_feign, hg_in 1074 (by decide +kernel) rfl, hg_in 1075 (by decide +kernel) rfl, hg_in 1076 (by decide +kernel) rfl⟩
theorem l_L_70 : hg_LV "HangmanDinnerLaw" 70 Y_D_see 2 := ⟨k_D_see, hg_in 590 (by decide +kernel) rfl, hg_in 591 (by decide +kernel) rfl, hg_in 592 (by decide +kernel) rfl⟩
theorem l_L_73 : hg_LV "HangmanDinnerLaw" 73 Y_M_see 2 := ⟨k_M_see, hg_in 1090 (by decide +kernel) rfl, hg_in 1091 (by decide +kernel) rfl, hg_in 1092 (by decide +kernel) rfl⟩
theorem l_L_74 : hg_LV "HangmanDinnerLaw" 74 Y_D_can 3 := ⟨k_D_can, hg_in 602 (by decide +kernel) rfl, hg_in 603 (by decide +kernel) rfl, hg_in 604 (by decide +kernel) rfl⟩
theorem l_L_77 : hg_LV "HangmanDinnerLaw" 77 Y_M_can 3 := ⟨k_M_can, hg_in 1094 (by decide +kernel) rfl, hg_in 1095 (by decide +kernel) rfl, hg_in 1096 (by decide +kernel) rfl⟩
theorem l_L_78 : hg_LV "HangmanDinnerLaw" 78 Y_D_odds 2 := ⟨k_D_odds, hg_in 611 (by decide +kernel) rfl, hg_in 612 (by decide +kernel) rfl, hg_in 613 (by decide +kernel) rfl⟩
theorem l_L_82 : hg_LV "HangmanDinnerLaw" 82 Y_M_odds 2 := ⟨k_M_odds, hg_in 1102 (by decide +kernel) rfl, hg_in 1103 (by decide +kernel) rfl, hg_in 1104 (by decide +kernel) rfl⟩
theorem l_L_83 : hg_LV "HangmanDinnerLaw" 83 Y_D_mean 2 := ⟨k_D_mean, hg_in 622 (by decide +kernel) rfl, hg_in 623 (by decide +kernel) rfl, hg_in 624 (by decide +kernel) rfl⟩
theorem l_L_86 : hg_LV "HangmanDinnerLaw" 86 Y_M_mean 2 := ⟨k_M_mean, hg_in 1110 (by decide +kernel) rfl, hg_in 1111 (by decide +kernel) rfl, hg_in 1112 (by decide +kernel) rfl⟩
theorem l_L_87 : hg_LV "HangmanDinnerLaw" 87 Y_D_plan 2 := ⟨k_D_plan, hg_in 626 (by decide +kernel) rfl, hg_in 627 (by decide +kernel) rfl, hg_in 628 (by decide +kernel) rfl⟩
theorem l_L_90 : hg_LV "HangmanDinnerLaw" 90 Y_M_plan 2 := ⟨k_M_plan, hg_in 1114 (by decide +kernel) rfl, hg_in 1115 (by decide +kernel) rfl, hg_in 1116 (by decide +kernel) rfl⟩
theorem l_L_91 : hg_LV "HangmanDinnerLaw" 91 Y_D_ends 1 := ⟨k_D_ends, hg_in 630 (by decide +kernel) rfl, hg_in 631 (by decide +kernel) rfl, hg_in 632 (by decide +kernel) rfl⟩
theorem l_L_94 : hg_LV "HangmanDinnerLaw" 94 Y_M_ends 1 := ⟨k_M_ends, hg_in 1118 (by decide +kernel) rfl, hg_in 1119 (by decide +kernel) rfl, hg_in 1120 (by decide +kernel) rfl⟩
theorem l_L_95 : hg_LV "HangmanDinnerLaw" 95 Y_D_book 2 := ⟨k_D_book, hg_in 638 (by decide +kernel) rfl, hg_in 639 (by decide +kernel) rfl, hg_in 640 (by decide +kernel) rfl⟩
theorem l_L_98 : hg_LV "HangmanDinnerLaw" 98 Y_M_book 2 := ⟨k_M_book, hg_in 1122 (by decide +kernel) rfl, hg_in 1123 (by decide +kernel) rfl, hg_in 1124 (by decide +kernel) rfl⟩
theorem l_L_99 : hg_LV "HangmanDinnerLaw" 99 Y_D_looked 0 := ⟨k_D_looked, hg_in 642 (by decide +kernel) rfl, hg_in 643 (by decide +kernel) rfl, hg_in 644 (by decide +kernel) rfl⟩
theorem l_L_102 : hg_LV "HangmanDinnerLaw" 102 Y_M_looked 0 := ⟨k_M_looked, hg_in 1126 (by decide +kernel) rfl, hg_in 1127 (by decide +kernel) rfl, hg_in 1128 (by decide +kernel) rfl⟩
theorem l_L_103 : hg_LV "HangmanDinnerLaw" 103 Y_D_judge 2 := ⟨k_D_judge, hg_in 646 (by decide +kernel) rfl, hg_in 647 (by decide +kernel) rfl, hg_in 648 (by decide +kernel) rfl⟩
theorem l_L_106 : hg_LV "HangmanDinnerLaw" 106 Y_M_judge 2 := ⟨k_M_judge, hg_in 1130 (by decide +kernel) rfl, hg_in 1131 (by decide +kernel) rfl, hg_in 1132 (by decide +kernel) rfl⟩
theorem l_L_107 : hg_LV "HangmanDinnerLaw" 107 Y_D_image 0 := ⟨k_D_image, hg_in 658 (by decide +kernel) rfl, hg_in 659 (by decide +kernel) rfl, hg_in 660 (by decide +kernel) rfl⟩
theorem l_L_110 : hg_LV "HangmanDinnerLaw" 110 Y_M_image 0 := ⟨k_M_image, hg_in 1134 (by decide +kernel) rfl, hg_in 1135 (by decide +kernel) rfl, hg_in 1136 (by decide +kernel) rfl⟩
theorem l_L_111 : hg_LV "HangmanDinnerLaw" 111 Y_D_undo 0 := ⟨k_D_undo, hg_in 667 (by decide +kernel) rfl, hg_in 668 (by decide +kernel) rfl, hg_in 669 (by decide +kernel) rfl⟩
theorem l_L_114 : hg_LV "HangmanDinnerLaw" 114 Y_M_undo 0 := ⟨k_M_undo, hg_in 1138 (by decide +kernel) rfl, hg_in 1139 (by decide +kernel) rfl, hg_in 1140 (by decide +kernel) rfl⟩
theorem l_L_115 : hg_LV "HangmanDinnerLaw" 115 Y_D_act 3 := ⟨k_D_act, hg_in 671 (by decide +kernel) rfl, hg_in 672 (by decide +kernel) rfl, hg_in 673 (by decide +kernel) rfl⟩
theorem l_L_118 : hg_LV "HangmanDinnerLaw" 118 Y_M_act 3 := ⟨k_M_act, hg_in 1142 (by decide +kernel) rfl, hg_in 1143 (by decide +kernel) rfl, hg_in 1144 (by decide +kernel) rfl⟩
theorem l_L_119 : hg_LV "HangmanDinnerLaw" 119 Y_D_trace 1 := ⟨k_D_trace, hg_in 695 (by decide +kernel) rfl, hg_in 696 (by decide +kernel) rfl, hg_in 697 (by decide +kernel) rfl⟩
theorem l_L_122 : hg_LV "HangmanDinnerLaw" 122 Y_M_trace 1 := ⟨k_M_trace, hg_in 1165 (by decide +kernel) rfl, hg_in 1166 (by decide +kernel) rfl, hg_in 1167 (by decide +kernel) rfl⟩
theorem l_L_123 : hg_LV "HangmanDinnerLaw" 123 Y_D_taken 2 := ⟨k_D_taken, hg_in 704 (by decide +kernel) rfl, hg_in 705 (by decide +kernel) rfl, hg_in 706 (by decide +kernel) rfl⟩
theorem l_L_126 : hg_LV "HangmanDinnerLaw" 126 Y_M_taken 2 := ⟨k_M_taken, hg_in 1169 (by decide +kernel) rfl, hg_in 1170 (by decide +kernel) rfl, hg_in 1171 (by decide +kernel) rfl⟩
theorem l_L_127 : hg_LV "HangmanDinnerLaw" 127 Y_D_count 1 := ⟨k_D_count, hg_in 711 (by decide +kernel) rfl, hg_in 712 (by decide +kernel) rfl, hg_in 713 (by decide +kernel) rfl⟩
theorem l_L_130 : hg_LV "HangmanDinnerLaw" 130 Y_M_count 1 := ⟨k_M_count, hg_in 1173 (by decide +kernel) rfl, hg_in 1174 (by decide +kernel) rfl, hg_in 1175 (by decide +kernel) rfl⟩
theorem l_L_131 : hg_LV "HangmanDinnerLaw" 131 Y_D_tape 3 := ⟨k_D_tape, hg_in 715 (by decide +kernel) rfl, hg_in 716 (by decide +kernel) rfl, hg_in 717 (by decide +kernel) rfl⟩
theorem l_L_134 : hg_LV "HangmanDinnerLaw" 134 Y_M_tape 3 := ⟨k_M_tape, hg_in 1177 (by decide +kernel) rfl, hg_in 1178 (by decide +kernel) rfl, hg_in 1179 (by decide +kernel) rfl⟩
theorem l_L_137 : hg_LV "HangmanDinnerLaw" 137 Y_D_item 3 := ⟨k_D_item, hg_in 723 (by decide +kernel) rfl, hg_in 724 (by decide +kernel) rfl, hg_in 725 (by decide +kernel) rfl⟩
theorem l_L_141 : hg_LV "HangmanDinnerLaw" 141 Y_M_item 3 := ⟨k_M_item, hg_in 1184 (by decide +kernel) rfl, hg_in 1185 (by decide +kernel) rfl, hg_in 1186 (by decide +kernel) rfl⟩
theorem l_L_142 : hg_LV "HangmanDinnerLaw" 142 Y_D_read 2 := ⟨k_D_read, hg_in 731 (by decide +kernel) rfl, hg_in 732 (by decide +kernel) rfl, hg_in 733 (by decide +kernel) rfl⟩
theorem l_L_145 : hg_LV "HangmanDinnerLaw" 145 Y_M_read 2 := ⟨k_M_read, hg_in 1191 (by decide +kernel) rfl, hg_in 1192 (by decide +kernel) rfl, hg_in 1193 (by decide +kernel) rfl⟩
theorem l_L_146 : hg_LV "HangmanDinnerLaw" 146 Y_D_shift 5 := ⟨k_D_shift, hg_in 735 (by decide +kernel) rfl, hg_in 736 (by decide +kernel) rfl, hg_in 737 (by decide +kernel) rfl⟩
theorem l_L_150 : hg_LV "HangmanDinnerLaw" 150 Y_M_shift 5 := ⟨k_M_shift, hg_in 1195 (by decide +kernel) rfl, hg_in 1196 (by decide +kernel) rfl, hg_in 1197 (by decide +kernel) rfl⟩
theorem hg_lay0 : ∀ k, k < hg_N 0 → u_lay (hg_C 0) (hg_Tb 0) k ∈ hg_T := by
  intro k hk
  have hk : k < 8 := hk
  have h : tables_1[([158, 160, 162, 164, 166, 168, 170, 172] : List Nat).getD k 0]? = some (u_lay (hg_C 0) (hg_Tb 0) k) := by revert k; decide +kernel
  refine hg_in _ h ?_
  revert k; decide +kernel
theorem hg_lay1 : ∀ k, k < hg_N 1 → u_lay (hg_C 1) (hg_Tb 1) k ∈ hg_T := by
  intro k hk
  have hk : k < 7 := hk
  have h : tables_1[([59, 61, 63, 65, 67, 69, 71] : List Nat).getD k 0]? = some (u_lay (hg_C 1) (hg_Tb 1) k) := by revert k; decide +kernel
  refine hg_in _ h ?_
  revert k; decide +kernel
theorem hg_lay2 : ∀ k, k < hg_N 2 → u_lay (hg_C 2) (hg_Tb 2) k ∈ hg_T := by
  intro k hk
  have hk : k < 3 := hk
  have h : tables_1[([37, 39, 41] : List Nat).getD k 0]? = some (u_lay (hg_C 2) (hg_Tb 2) k) := by revert k; decide +kernel
  refine hg_in _ h ?_
  revert k; decide +kernel
theorem hg_lay3 : ∀ k, k < hg_N 3 → u_lay (hg_C 3) (hg_Tb 3) k ∈ hg_T := by
  intro k hk
  have hk : k < 9 := hk
  have h : tables_1[([192, 194, 196, 198, 200, 202, 204, 206, 208] : List Nat).getD k 0]? = some (u_lay (hg_C 3) (hg_Tb 3) k) := by revert k; decide +kernel
  refine hg_in _ h ?_
  revert k; decide +kernel
theorem hg_lay4 : ∀ k, k < hg_N 4 → u_lay (hg_C 4) (hg_Tb 4) k ∈ hg_T := by
  intro k hk
  have hk : k < 5 := hk
  have h : tables_1[([88, 90, 92, 94, 96] : List Nat).getD k 0]? = some (u_lay (hg_C 4) (hg_Tb 4) k) := by revert k; decide +kernel
  refine hg_in _ h ?_
  revert k; decide +kernel
theorem hg_lay5 : ∀ k, k < hg_N 5 → u_lay (hg_C 5) (hg_Tb 5) k ∈ hg_T := by
  intro k hk
  have hk : k < 3 := hk
  have h : tables_1[([221, 223, 225] : List Nat).getD k 0]? = some (u_lay (hg_C 5) (hg_Tb 5) k) := by revert k; decide +kernel
  refine hg_in _ h ?_
  revert k; decide +kernel
theorem hg_lay6 : ∀ k, k < hg_N 6 → u_lay (hg_C 6) (hg_Tb 6) k ∈ hg_T := by
  intro k hk
  have hk : k < 2 := hk
  have h : tables_1[([114, 116] : List Nat).getD k 0]? = some (u_lay (hg_C 6) (hg_Tb 6) k) := by revert k; decide +kernel
  refine hg_in _ h ?_
  revert k; decide +kernel
theorem hg_lay7 : ∀ k, k < hg_N 7 → u_lay (hg_C 7) (hg_Tb 7) k ∈ hg_T := by
  intro k hk
  have hk : k < 15 := hk
  have h : tables_1[([244, 246, 248, 250, 252, 254, 256, 258, 260, 262, 264, 266, 268, 270, 272] : List Nat).getD k 0]? = some (u_lay (hg_C 7) (hg_Tb 7) k) := by revert k; decide +kernel
  refine hg_in _ h ?_
  revert k; decide +kernel
theorem hg_lay8 : ∀ k, k < hg_N 8 → u_lay (hg_C 8) (hg_Tb 8) k ∈ hg_T := by
  intro k hk
  have hk : k < 48 := hk
  have h : tables_1[([798, 800, 802, 804, 806, 808, 810, 812, 814, 816, 818, 820, 822, 824, 826, 828, 830, 832, 834, 836, 838, 840, 842, 844, 846, 848, 850, 852, 854, 856, 858, 860, 862, 864, 866, 868, 870, 872, 874, 876, 878, 880, 882, 884, 886, 888, 890, 892] : List Nat).getD k 0]? = some (u_lay (hg_C 8) (hg_Tb 8) k) := by revert k; decide +kernel
  refine hg_in _ h ?_
  revert k; decide +kernel
theorem hg_lay {c : Nat} (hc : c < 9) : ∀ w ∈ u_ws (hg_C c) (hg_Tb c) (hg_N c), w ∈ hg_T := by
  intro w hw
  obtain ⟨k, hk, rfl⟩ := List.mem_map.mp hw
  have hk := List.mem_range.mp hk
  match c, hc with
  | 0, _ => exact hg_lay0 k hk
  | 1, _ => exact hg_lay1 k hk
  | 2, _ => exact hg_lay2 k hk
  | 3, _ => exact hg_lay3 k hk
  | 4, _ => exact hg_lay4 k hk
  | 5, _ => exact hg_lay5 k hk
  | 6, _ => exact hg_lay6 k hk
  | 7, _ => exact hg_lay7 k hk
  | 8, _ => exact hg_lay8 k hk
theorem hg_oi1 : Cond.instanceMethod objectInit ∈ hg_T := hg_in 23 (by decide +kernel) rfl
theorem hg_oi2 : Cond.code objectInit ⟨#[0xb1]⟩ 1 none ∈ hg_T := hg_in 24 (by decide +kernel) rfl
theorem hg_ac_int : Cond.arrayClass .int ∈ hg_T := hg_in 44 (by decide +kernel) rfl
theorem hg_ac_byte : Cond.arrayClass .byte ∈ hg_T := hg_in 74 (by decide +kernel) rfl
theorem hg_ac_boolean : Cond.arrayClass .boolean ∈ hg_T := hg_in 895 (by decide +kernel) rfl
theorem hg_ac_long : Cond.arrayClass .long ∈ hg_T := hg_in 228 (by decide +kernel) rfl
theorem hg_cp1 : Cond.native arraycopyName ∈ hg_T := hg_in 109 (by decide +kernel) rfl
theorem hg_cp2 : Cond.static arraycopyName ∈ hg_T := hg_in 108 (by decide +kernel) rfl
theorem hg_cp3 : Cond.initialized "java/lang/System" ∈ hg_T := hg_in 6 (by decide +kernel) rfl
theorem hg_min1 : Cond.static Lib.Math.min.name ∈ hg_T := hg_in 311 (by decide +kernel) rfl
theorem hg_min2 : Cond.code Lib.Math.min.name Lib.Math.min.code 2 (some .int) ∈ hg_T := hg_in 312 (by decide +kernel) rfl
theorem hg_max1 : Cond.static Lib.Math.max.name ∈ hg_T := hg_in 490 (by decide +kernel) rfl
theorem hg_max2 : Cond.code Lib.Math.max.name Lib.Math.max.code 2 (some .int) ∈ hg_T := hg_in 491 (by decide +kernel) rfl
theorem hg_mth : Cond.initialized "java/lang/Math" ∈ hg_T := hg_in 11 (by decide +kernel) rfl
theorem c_D_233 : Cond.constantLong "HangmanDinner" 233 (-9223372036854775808) ∈ hg_T := hg_in 615 (by decide +kernel) rfl
theorem c_M_288 : Cond.constantLong "HangmanDinnerModel" 288 (-9223372036854775808) ∈ hg_T := hg_in 1106 (by decide +kernel) rfl
theorem c_L_135 : Cond.constantLong "HangmanDinnerLaw" 135 (4294967295) ∈ hg_T := hg_in 1199 (by decide +kernel) rfl
end
section
/-! one memory for all; a row an instruction: by wip/whole/gen_core.py -/
-- the memory that all methods share, and what it is on the machine's heap
abbrev hg_E : Type := (Nat → ClassId) × (Nat → Nat → Nat) × (Nat → ClassId) × Nat × (Nat → Nat) × Nat × (Nat → Int32)
abbrev hg_M : Type := (Nat → Nat → Nat → Int32) × (Nat → Nat → Nat → Int64) × (Nat → Nat → Nat → Option (Nat × Nat)) × Nat × (Nat → Nat) × (Nat → Nat → Nat)
abbrev hg_z (E : hg_E) : Nat := E.2.2.2.1
abbrev hg_ex (E : hg_E) : Nat → Nat := E.2.2.2.2.1
abbrev hg_cA (E : hg_E) : Nat → ClassId := E.2.2.1
abbrev hg_nx (M : hg_M) : Nat := M.2.2.2.1
abbrev hg_ct (M : hg_M) : Nat → Nat := M.2.2.2.2.1
abbrev hg_ln (M : hg_M) : Nat → Nat → Nat := M.2.2.2.2.2
def hg_cl (k : Nat) : Option Nat := match k with
  | 0 => some 7 | 1 => some 3 | 3 => some 0 | 7 => some 2 | 10 => some 1 | 13 => some 4 | 16 => some 5 | 19 => some 6 | 21 => some 8 | _ => none
def hg_ty (k : Nat) : Nat := match k with
  | 2 => 4 | 11 => 1 | 15 => 5 | 17 => 3 | 23 => 3 | 24 => 2 | _ => 0
def hg_cap (k : Nat) : Nat := ([1, 3, 3, 18, 18, 3, 3, 6, 6, 6, 1, 1, 1, 1, 1, 1, 6, 6, 1, 7, 7, 1, 28, 1, 1, 1] : List Nat).getD k 0
/-- which cell it is, counted from the run's first -/
def hg_sq (k i : Nat) : Nat := match k with
  | 0 => 0 + i | 1 => 29 + 16 * i | 2 => 30 + 16 * i | 3 => 33 + 16 * (i / 6) + 2 * (i % 6) | 4 => 34 + 16 * (i / 6) + 2 * (i % 6) | 5 => 31 + 16 * i | 6 => 32 + 16 * i
  | 7 => 1 + 3 * i | 8 => 2 + 3 * i | 9 => 3 + 3 * i | 10 => 19 + i | 11 => 20 + i | 12 => 21 + i | 13 => 22 + i | 14 => 23 + i | 15 => 24 + i | 16 => 77 + 2 * i | 17 => 78 + 2 * i | 18 => 25 + i
  | 19 => if i = 0 then 26 else 118 + 2 * i | 20 => if i = 0 then 28 else 119 + 2 * i | 21 => 89 + i | 22 => if i < 16 then 90 + i else 91 + i | 23 => 119 + i | 24 => 106 + i | 25 => 27 + i | _ => 0
def hg_all : List (Nat × Nat) := (List.range 26).flatMap fun k => (List.range (hg_cap k)).map fun i => (k, i)
def hg_inv (q : Nat) : Nat × Nat := (hg_all.find? (fun x => hg_sq x.1 x.2 == q)).getD (0, 0)
theorem hg_inv_ok : ∀ k, k < 26 → ∀ i, i < 28 → i < hg_cap k → hg_inv (hg_sq k i) = (k, i) := by decide +kernel
theorem hg_cap_le : ∀ k, k < 26 → hg_cap k ≤ 28 := by decide +kernel
theorem hg_cap_26 {k i : Nat} (h : i < hg_cap k) : k < 26 := by
  rcases Nat.lt_or_ge k 26 with q | q
  · exact q
  · have e : hg_cap k = 0 := by
      unfold hg_cap
      rw [List.getD_eq_getElem?_getD, List.getElem?_eq_none (by simpa using q)]
      rfl
    rw [e] at h
    exact absurd h (Nat.not_lt_zero _)
theorem hg_sq_inj {k i k' i' : Nat} (h : i < hg_cap k) (h' : i' < hg_cap k') (e : hg_sq k i = hg_sq k' i') : k = k' ∧ i = i' := by
  have a := hg_inv_ok k (hg_cap_26 h) i (Nat.lt_of_lt_of_le h (hg_cap_le k (hg_cap_26 h))) h
  have b := hg_inv_ok k' (hg_cap_26 h') i' (Nat.lt_of_lt_of_le h' (hg_cap_le k' (hg_cap_26 h'))) h'
  rw [e, b] at a
  exact ⟨(Prod.mk.inj a).1.symm, (Prod.mk.inj a).2.symm⟩
def hg_fty (t : Nat) : FieldType := match t with
  | 0 => .int | 1 => .byte | 2 => .boolean | 3 => .long | 4 => .object "HangmanDinner$House" | _ => .object "HangmanDinner$Tape"
def hg_isR : FieldType → Bool
  | .int => false
  | .boolean => false
  | _ => true
def hg_ad (E : hg_E) (k i : Nat) : Nat := hg_z E + hg_sq k i
def hg_rv (E : hg_E) : Option (Nat × Nat) → Value
  | none => .null
  | some q => .ref (hg_ad E q.1 q.2)
def hg_fv (E : hg_E) (M : hg_M) (k i c j : Nat) : Value := if hg_isR (hg_tt c j) = true then hg_rv E (M.2.2.1 k i j) else .int (M.1 k i j)
def hg_av (E : hg_E) (M : hg_M) (k i j : Nat) : Value := if hg_ty k ≤ 2 then .int (M.1 k i j) else if hg_ty k = 3 then .long (M.2.1 k i j) else hg_rv E (M.2.2.1 k i j)
def hg_cell (E : hg_E) (M : hg_M) (k i : Nat) (H : Heap) : Prop := match hg_cl k with
  | some c => t_OB (hg_ad E k i) (E.1 c) (hg_N c) (E.2.1 c) H (hg_fv E M k i c)
  | none => H[hg_ad E k i]? = some (arrV (hg_cA E (hg_ty k)) (hg_ln M k i) (hg_av E M k i))
def hg_rep (E : hg_E) (M : hg_M) (H : Heap) : Prop := H.size = hg_z E + hg_nx M ∧ (∀ k, hg_ct M k ≤ hg_cap k) ∧ ∀ k i, i < hg_ct M k → hg_cell E M k i H
def hg_A (E : hg_E) : Nat → Prop := fun q => hg_z E ≤ q
def hg_tys (E : hg_E) : List (ClassId × FieldType) := (List.range 6).map fun t => (hg_cA E t, hg_fty t)
theorem hg_tys_at (E : hg_E) {t : Nat} (h : t < 6) : (hg_tys E)[t]? = some (hg_cA E t, hg_fty t) := by simp [hg_tys, h]
-- what lies outside
def hg_fA (j : Nat) : Int32 := ([-1, 0, 0, 0, 1, 2, 3] : List Int32).getD j 0
def hg_fB (j : Nat) : Int32 := ([10, 11, 12, 0, 20, 0, 30, 0, 0, 0, 0, 40, 50, 51, 0, 0, 0, 60, 71, 70, 0] : List Int32).getD j 0
def hg_sb : List (List Int32) := [[105, 108, 108, 32], [102, 101, 97, 114, 32], [101, 97, 115, 101, 32], [112, 107, 118, 111, 100, 119], [60, 61, 62]]
def hg_sn : List Nat := [4, 5, 5, 6, 3]
def hg_sl : List (String × Nat × String × Nat) := [("HangmanDinner$Reader", 45, "ill ", 0), ("HangmanDinner$Reader", 56, "fear ", 1), ("HangmanDinner$Reader", 58, "ease ", 2), ("HangmanDinner$Reader", 77, "pkvodw", 3), ("HangmanDinner$Reader", 85, "<=>", 4), ("HangmanDinnerModel", 206, "ill ", 0), ("HangmanDinnerModel", 198, "fear ", 1), ("HangmanDinnerModel", 204, "ease ", 2), ("HangmanDinnerModel", 167, "pkvodw", 3), ("HangmanDinnerModel", 172, "<=>", 4)]
def hg_nl : List (String × Nat × MethodName × String) := [("HangmanDinner", 37, Y_R_init.1, "HangmanDinner"), ("HangmanDinner", 44, Y_T_init.1, "HangmanDinner"), ("HangmanDinner", 79, Y_P_init.1, "HangmanDinner"), ("HangmanDinner$Scene", 28, Y_H_init.1, "HangmanDinner")]
def hg_ext (E : hg_E) (U : State) (H : Heap) : Prop :=
  va_T .int (hg_ex E 0) E.2.2.2.2.2.1 (fun j => .int (E.2.2.2.2.2.2 j)) (hg_A E) U H ∧ va_Z "HangmanDinner$Talk" "ABOVE" "[I" (.ref (hg_ex E 1)) (hg_A E) U H ∧ va_T .int (hg_ex E 1) 7 (fun j => .int (hg_fA j)) (hg_A E) U H ∧
  va_Z "HangmanDinner$Talk" "BODIES" "[I" (.ref (hg_ex E 2)) (hg_A E) U H ∧ va_T .int (hg_ex E 2) 21 (fun j => .int (hg_fB j)) (hg_A E) U H ∧ va_Z "java/lang/String" "COMPACT_STRINGS" "Z" (.int 1) (hg_A E) U H ∧
  va_Zq "jdk/internal/util/Preconditions" "SIOOBE_FORMATTER" "Ljava/util/function/BiFunction;" (hg_A E) U H ∧ vk_S 5 hg_sn hg_sb (fun i => hg_ex E (10 + i)) (fun i => hg_ex E (20 + i)) (hg_A E) U H
def hg_kn (E : hg_E) (U : State) : Prop :=
  va_K (E.1, E.2.1) hg_cls (hg_tys E) U ∧ va_AO "HangmanDinner$House" U ∧ va_AO "HangmanDinner$Tape" U ∧ (∀ q ∈ hg_nl, va_Nw (.methodLinkNest q.1 q.2.1 q.2.2.1 q.2.2.2) U) ∧ (∀ q ∈ hg_sl, vk_R q.1 q.2.1 q.2.2.1 (hg_ex E (10 + q.2.2.2)) U) ∧ hg_ext E U U.heap
theorem hg_ext.to {E : hg_E} {u U : State} {H H1 : Heap} (h : hg_ext E u H) (hvm : u.vm.Alike U.vm) (hq : ∀ a : Nat, a < H.size → ¬ hg_A E a → H1[a]? = H[a]?) : hg_ext E U H1 := by
  obtain ⟨h1, h2, h3, h4, h5, h6, h7, h8⟩ := h
  exact ⟨(h1.moved hvm).kept hq, (h2.moved hvm).kept hq, (h3.moved hvm).kept hq, (h4.moved hvm).kept hq, (h5.moved hvm).kept hq, (h6.moved hvm).kept hq, (h7.moved hvm).kept hq, (h8.moved hvm).kept hq⟩
theorem hg_kn.to {E : hg_E} {s U : State} {H : Heap} {locs : List Loc} (h : hg_kn E s) (hS : va_S (hg_A E) s.heap H locs) (hU : U.heap = H) (hW : s.WarmedH U.vm) : hg_kn E U := by
  obtain ⟨h1, h2, h3, h4, h5, h6⟩ := h
  have hv := hW.alike
  refine ⟨va_K.moved hv h1, h2.moved hv, h3.moved hv, fun q hq => va_Nw.warmM hW (h4 q hq), fun q hq => vk_R.warm hW (h5 q hq), h6.to hv (fun a ha hn => ?_)⟩
  rw [hU]
  exact hS.2.1 a ha hn
theorem hg_kn.blind {E : hg_E} {U : State} {g : JFrame} {mk : MethodId} {a : Array Value} (h : hg_kn E U) : hg_kn E (U.calling g mk a) := by
  obtain ⟨h1, h2, h3, h4, h5, h6⟩ := h
  have hv : U.vm.Alike (U.calling g mk a).vm := Vm.Alike.refl U.vm
  exact ⟨va_K.moved hv h1, h2.moved hv, h3.moved hv, fun q hq => va_Nw.same rfl rfl (h4 q hq), fun q hq => vk_R.same rfl (h5 q hq), h6.to hv (fun a ha hn => rfl)⟩
-- the judgement
def hg_dc (Y : hg_Y) (pc : Nat) := decode Y.2.1 pc
/-- at pc stands i, n bytes long, and pc' is behind it -/
def hg_D (Y : hg_Y) (pc pc' n : Nat) (i : Instr) : Prop := decode Y.2.1 pc = .ok (i, n) ∧ pc + n = pc'
def hg_fix (p : Program) (Y : hg_Y) (s : State) (m : MethodId) (args : Array Value) (meth : Method) (c : Code) : Prop :=
  p.tables.exec = Jvm.exec ∧ c.code = Y.2.1 ∧ c.maxLocals = Y.2.2.1 ∧ s.vm.findClass Y.1.cls = some m.cls ∧ (∀ w ∈ hg_T, w.before args s = true) ∧ (Y.1.name = "<init>" → meth.name = "<init>")
def hg_lok (ls : Array Slot) (n : Nat) (loc : List (Option Value)) : Prop := loc.length = n ∧ ∃ lv, lv_has ls n lv ∧ ∀ i v, loc[i]? = some (some v) → (i, v) ∈ lv
def hg_ret (Y : hg_Y) (pc : Nat) (r : Option Value) : Prop :=
  (∃ (v : Int32) (ty : FieldType), r = some (.int v) ∧ decode Y.2.1 pc = .ok (.ireturn, 1) ∧ Y.2.2.2 = some ty ∧ narrow ty (.int v) = .int v) ∨
  (∃ v : Int64, r = some (.long v) ∧ decode Y.2.1 pc = .ok (.lreturn, 1) ∧ Y.2.2.2 = some .long) ∨
  (r = none ∧ decode Y.2.1 pc = .ok (.return_, 1) ∧ Y.2.2.2 = none) ∨
  (∃ (v : Value) (rt : FieldType), r = some v ∧ (v = .null ∨ ∃ a, v = .ref a) ∧ decode Y.2.1 pc = .ok (.areturn, 1) ∧ Y.2.2.2 = some rt ∧ ((∃ n, rt = .object n) ∨ ∃ t, rt = .array t))
def hg_WP (l : Launch) (E : hg_E) (d : Nat) (Y : hg_Y) (mc ms : Nat) (pc : Nat) (loc : List (Option Value)) (st : List Value) (M : hg_M) (Q : Option Value → hg_M → Prop) : Prop :=
  ∀ (p : Program) (e : Env) (R : Room) (s : State) (m : MethodId) (args : Array Value) (below : List Frame) (meth : Method) (c : Code) (H : Heap) (locs : List Loc) (cells slots : Nat) (Z : State → Prop) (ls : Array Slot),
    hg_fix p Y s m args meth c → hg_kn E s → (d + 1 ≤ R.frames ∧ 40 * (d + 1) ≤ R.locals ∧ cells + mc ≤ R.cells ∧ slots + ms ≤ R.slots) → hg_rep E M H → va_S (hg_A E) s.heap H locs → hg_lok ls Y.2.2.1 loc → hg_z E ≤ s.heap.size →
    (∀ (pc : Nat) (ls : Array Slot) (H : Heap) (locs : List Loc) (cells' slots' : Nat) (r : Option Value) (M' : hg_M), Q r M' → hg_ret Y pc r → hg_rep E M' H → va_S (hg_A E) s.heap H locs → cells' ≤ cells + mc → slots' ≤ slots + ms → W p l e R s m args below meth c H locs cells' slots' Z (F0 m pc ls r.toList)) →
    W p l e R s m args below meth c H locs cells slots Z (F0 m pc ls st)
def hg_Q (E : hg_E) (Q : Option Value → hg_M → Prop) : Array Value → State → Outcome → State → Prop := fun _ st o t => (∃ (r : Option Value) (M' : hg_M), o = .returned r ∧ Q r M' ∧ hg_rep E M' t.heap) ∧ va_F (hg_A E) st t
def hg_MC (l : Launch) (E : hg_E) (d : Nat) (Y : hg_Y) (mc ms : Nat) (as : List Value) (M : hg_M) (Q : Option Value → hg_M → Prop) : Prop :=
  Met l Y.1 (hg_yw Y :: hg_T) ({ frames := d, cells := mc, slots := ms, locals := 40 * d } : Room) (va_Pc as (fun U => hg_rep E M U.heap ∧ hg_kn E U ∧ hg_z E ≤ U.heap.size)) (hg_Q E Q) mc ms (hg_A E)
def hg_i (P : Int32 → hg_M → Prop) : Option Value → hg_M → Prop := fun r M' => ∃ v : Int32, r = some (.int v) ∧ P v M'
def hg_l (P : Int64 → hg_M → Prop) : Option Value → hg_M → Prop := fun r M' => ∃ v : Int64, r = some (.long v) ∧ P v M'
def hg_v (P : hg_M → Prop) : Option Value → hg_M → Prop := fun r M' => r = none ∧ P M'
def hg_r (E : hg_E) (P : Option (Nat × Nat) → hg_M → Prop) : Option Value → hg_M → Prop := fun r M' => ∃ q, r = some (hg_rv E q) ∧ P q M'
/-- the locals at a method's start -/
def hg_lo (n : Nat) : List Value → List (Option Value)
  | [] => List.replicate n none
  | v :: vs => if v.category = 2 then some v :: none :: hg_lo (n - 2) vs else some v :: hg_lo (n - 1) vs
theorem hg_lo_in : ∀ (vs : List Value) (n k i : Nat) (v : Value), (hg_lo n vs)[i]? = some (some v) → (k + i, v) ∈ lv_args k vs
  | [], n, k, i, v, h => by
    exfalso
    unfold hg_lo at h
    rw [List.getElem?_replicate] at h
    split at h <;> cases h
  | w :: vs, n, k, i, v, h => by
    unfold hg_lo at h
    unfold lv_args
    split at h
    · rename_i hc
      match i, h with
      | 0, h => cases h; simp
      | 1, h => cases h
      | i + 2, h =>
        have := hg_lo_in vs (n - 2) (k + 2) i v (by simpa using h)
        rw [show k + (i + 2) = k + 2 + i by omega]
        simp [hc, this]
    · rename_i hc
      match i, h with
      | 0, h => cases h; simp
      | i + 1, h =>
        have hc1 : w.category = 1 := by rcases lv_cat w with q | q <;> omega
        have := hg_lo_in vs (n - 1) (k + 1) i v (by simpa using h)
        rw [show k + (i + 1) = k + 1 + i by omega]
        simp [hc1, this]
theorem hg_lo_len : ∀ (vs : List Value) (n : Nat), (lg_sl vs).length ≤ n → (hg_lo n vs).length = n
  | [], n, _ => by simp [hg_lo]
  | w :: vs, n, h => by
    have e : (lg_sl (w :: vs)).length = w.category + (lg_sl vs).length := by
      rcases lv_cat w with q | q <;> simp [lg_sl, q] <;> omega
    rw [e] at h
    unfold hg_lo
    split
    · rename_i hc
      have := hg_lo_len vs (n - 2) (by omega)
      simp only [List.length_cons, this]
      omega
    · rename_i hc
      have hc1 : w.category = 1 := by rcases lv_cat w with q | q <;> omega
      have := hg_lo_len vs (n - 1) (by omega)
      simp only [List.length_cons, this]
      omega
section HG
variable {l : Launch} {E : hg_E} {d : Nat} {Y : hg_Y} {mc ms pc pc' : Nat} {loc : List (Option Value)} {st : List Value} {M : hg_M} {Q : Option Value → hg_M → Prop}
theorem hg_iconst {n : Int} {v : Int32} (hd : hg_D Y pc pc' 1 (.iconst n)) (hv : Int32.ofInt n = v) (k : hg_WP l E d Y mc ms pc' loc (.int v :: st) M Q) : hg_WP l E d Y mc ms pc loc (st) M Q := by
  intro p e R s m args below meth c H locs cells slots Z ls hF hK hR hP hS hL hz hret
  obtain ⟨hd, rfl⟩ := hd
  exact lv_iconst hF.1 hF.2.1 hd hv (k p e R s m args below meth c H locs cells slots Z ls hF hK hR hP hS hL hz hret)
theorem hg_bipush {n : Int} {v : Int32} (hd : hg_D Y pc pc' 2 (.bipush n)) (hv : (Int8.ofInt n).toInt32 = v) (k : hg_WP l E d Y mc ms pc' loc (.int v :: st) M Q) : hg_WP l E d Y mc ms pc loc (st) M Q := by
  intro p e R s m args below meth c H locs cells slots Z ls hF hK hR hP hS hL hz hret
  obtain ⟨hd, rfl⟩ := hd
  exact lv_bipush hF.1 hF.2.1 hd hv (k p e R s m args below meth c H locs cells slots Z ls hF hK hR hP hS hL hz hret)
theorem hg_sipush {n : Int} {v : Int32} (hd : hg_D Y pc pc' 3 (.sipush n)) (hv : (Int16.ofInt n).toInt32 = v) (k : hg_WP l E d Y mc ms pc' loc (.int v :: st) M Q) : hg_WP l E d Y mc ms pc loc (st) M Q := by
  intro p e R s m args below meth c H locs cells slots Z ls hF hK hR hP hS hL hz hret
  obtain ⟨hd, rfl⟩ := hd
  exact lv_sipush hF.1 hF.2.1 hd hv (k p e R s m args below meth c H locs cells slots Z ls hF hK hR hP hS hL hz hret)
theorem hg_lconst {n : Fin 2} {v : Int64} (hd : hg_D Y pc pc' 1 (.lconst n)) (hv : Int64.ofNat (n : Nat) = v) (k : hg_WP l E d Y mc ms pc' loc (.long v :: st) M Q) : hg_WP l E d Y mc ms pc loc (st) M Q := by
  intro p e R s m args below meth c H locs cells slots Z ls hF hK hR hP hS hL hz hret
  obtain ⟨hd, rfl⟩ := hd
  exact lv_lconst hF.1 hF.2.1 hd hv (k p e R s m args below meth c H locs cells slots Z ls hF hK hR hP hS hL hz hret)
theorem hg_ldc2 {n : Nat} {v : Int64} (hd : hg_D Y pc pc' 3 (.ldc2_w n)) (hv : Cond.constantLong Y.1.cls n v ∈ hg_T) (k : hg_WP l E d Y mc ms pc' loc (.long v :: st) M Q) : hg_WP l E d Y mc ms pc loc (st) M Q := by
  intro p e R s m args below meth c H locs cells slots Z ls hF hK hR hP hS hL hz hret
  obtain ⟨hd, rfl⟩ := hd
  exact lv_ldc2 hF.1 hF.2.1 hF.2.2.2.1 (hF.2.2.2.2.1 _ hv) hd (k p e R s m args below meth c H locs cells slots Z ls hF hK hR hP hS hL hz hret)
theorem hg_null  (hd : hg_D Y pc pc' 1 .aconst_null) (k : hg_WP l E d Y mc ms pc' loc (.null :: st) M Q) : hg_WP l E d Y mc ms pc loc (st) M Q := by
  intro p e R s m args below meth c H locs cells slots Z ls hF hK hR hP hS hL hz hret
  obtain ⟨hd, rfl⟩ := hd
  exact lv_null hF.1 hF.2.1 hd (k p e R s m args below meth c H locs cells slots Z ls hF hK hR hP hS hL hz hret)
theorem hg_ldcS {n i : Nat} {tx : String} (hd : hg_D Y pc pc' 2 (.ldc n)) (hv : (Y.1.cls, n, tx, i) ∈ hg_sl) (k : hg_WP l E d Y mc ms pc' loc (.ref (hg_ex E (10 + i)) :: st) M Q) : hg_WP l E d Y mc ms pc loc (st) M Q := by
  intro p e R s m args below meth c H locs cells slots Z ls hF hK hR hP hS hL hz hret
  obtain ⟨hd, rfl⟩ := hd
  exact va_ldcS hF.1 hF.2.1 hF.2.2.2.1 (hK.2.2.2.2.1 _ hv) hd (k p e R s m args below meth c H locs cells slots Z ls hF hK hR hP hS hL hz hret)
theorem hg_iadd {x y : Int32} (hd : hg_D Y pc pc' 1 .iadd) (k : hg_WP l E d Y mc ms pc' loc (.int (x + y) :: st) M Q) : hg_WP l E d Y mc ms pc loc (.int y :: .int x :: st) M Q := by
  intro p e R s m args below meth c H locs cells slots Z ls hF hK hR hP hS hL hz hret
  obtain ⟨hd, rfl⟩ := hd
  exact lv_iadd hF.1 hF.2.1 hd (k p e R s m args below meth c H locs cells slots Z ls hF hK hR hP hS hL hz hret)
theorem hg_isub {x y : Int32} (hd : hg_D Y pc pc' 1 .isub) (k : hg_WP l E d Y mc ms pc' loc (.int (x - y) :: st) M Q) : hg_WP l E d Y mc ms pc loc (.int y :: .int x :: st) M Q := by
  intro p e R s m args below meth c H locs cells slots Z ls hF hK hR hP hS hL hz hret
  obtain ⟨hd, rfl⟩ := hd
  exact lv_isub hF.1 hF.2.1 hd (k p e R s m args below meth c H locs cells slots Z ls hF hK hR hP hS hL hz hret)
theorem hg_imul {x y : Int32} (hd : hg_D Y pc pc' 1 .imul) (k : hg_WP l E d Y mc ms pc' loc (.int (x * y) :: st) M Q) : hg_WP l E d Y mc ms pc loc (.int y :: .int x :: st) M Q := by
  intro p e R s m args below meth c H locs cells slots Z ls hF hK hR hP hS hL hz hret
  obtain ⟨hd, rfl⟩ := hd
  exact lv_imul hF.1 hF.2.1 hd (k p e R s m args below meth c H locs cells slots Z ls hF hK hR hP hS hL hz hret)
theorem hg_iand {x y : Int32} (hd : hg_D Y pc pc' 1 .iand) (k : hg_WP l E d Y mc ms pc' loc (.int (x &&& y) :: st) M Q) : hg_WP l E d Y mc ms pc loc (.int y :: .int x :: st) M Q := by
  intro p e R s m args below meth c H locs cells slots Z ls hF hK hR hP hS hL hz hret
  obtain ⟨hd, rfl⟩ := hd
  exact lv_iand hF.1 hF.2.1 hd (k p e R s m args below meth c H locs cells slots Z ls hF hK hR hP hS hL hz hret)
theorem hg_ior {x y : Int32} (hd : hg_D Y pc pc' 1 .ior) (k : hg_WP l E d Y mc ms pc' loc (.int (x ||| y) :: st) M Q) : hg_WP l E d Y mc ms pc loc (.int y :: .int x :: st) M Q := by
  intro p e R s m args below meth c H locs cells slots Z ls hF hK hR hP hS hL hz hret
  obtain ⟨hd, rfl⟩ := hd
  exact lv_ior hF.1 hF.2.1 hd (k p e R s m args below meth c H locs cells slots Z ls hF hK hR hP hS hL hz hret)
theorem hg_ixor {x y : Int32} (hd : hg_D Y pc pc' 1 .ixor) (k : hg_WP l E d Y mc ms pc' loc (.int (x ^^^ y) :: st) M Q) : hg_WP l E d Y mc ms pc loc (.int y :: .int x :: st) M Q := by
  intro p e R s m args below meth c H locs cells slots Z ls hF hK hR hP hS hL hz hret
  obtain ⟨hd, rfl⟩ := hd
  exact lv_ixor hF.1 hF.2.1 hd (k p e R s m args below meth c H locs cells slots Z ls hF hK hR hP hS hL hz hret)
theorem hg_ishl {x y : Int32} (hd : hg_D Y pc pc' 1 .ishl) (k : hg_WP l E d Y mc ms pc' loc (.int (x <<< (y &&& 31)) :: st) M Q) : hg_WP l E d Y mc ms pc loc (.int y :: .int x :: st) M Q := by
  intro p e R s m args below meth c H locs cells slots Z ls hF hK hR hP hS hL hz hret
  obtain ⟨hd, rfl⟩ := hd
  exact lv_ishl hF.1 hF.2.1 hd (k p e R s m args below meth c H locs cells slots Z ls hF hK hR hP hS hL hz hret)
theorem hg_ishr {x y : Int32} (hd : hg_D Y pc pc' 1 .ishr) (k : hg_WP l E d Y mc ms pc' loc (.int (x >>> (y &&& 31)) :: st) M Q) : hg_WP l E d Y mc ms pc loc (.int y :: .int x :: st) M Q := by
  intro p e R s m args below meth c H locs cells slots Z ls hF hK hR hP hS hL hz hret
  obtain ⟨hd, rfl⟩ := hd
  exact lv_ishr hF.1 hF.2.1 hd (k p e R s m args below meth c H locs cells slots Z ls hF hK hR hP hS hL hz hret)
theorem hg_idiv {x y : Int32} (hd : hg_D Y pc pc' 1 .idiv) (hy : ¬ y = 0) (k : hg_WP l E d Y mc ms pc' loc (.int (x / y) :: st) M Q) : hg_WP l E d Y mc ms pc loc (.int y :: .int x :: st) M Q := by
  intro p e R s m args below meth c H locs cells slots Z ls hF hK hR hP hS hL hz hret
  obtain ⟨hd, rfl⟩ := hd
  exact lv_idiv hF.1 hF.2.1 hd hy (k p e R s m args below meth c H locs cells slots Z ls hF hK hR hP hS hL hz hret)
theorem hg_irem {x y : Int32} (hd : hg_D Y pc pc' 1 .irem) (hy : ¬ y = 0) (k : hg_WP l E d Y mc ms pc' loc (.int (x - x / y * y) :: st) M Q) : hg_WP l E d Y mc ms pc loc (.int y :: .int x :: st) M Q := by
  intro p e R s m args below meth c H locs cells slots Z ls hF hK hR hP hS hL hz hret
  obtain ⟨hd, rfl⟩ := hd
  exact lv_irem hF.1 hF.2.1 hd hy (k p e R s m args below meth c H locs cells slots Z ls hF hK hR hP hS hL hz hret)
theorem hg_ineg {x : Int32} (hd : hg_D Y pc pc' 1 .ineg) (k : hg_WP l E d Y mc ms pc' loc (.int (-x) :: st) M Q) : hg_WP l E d Y mc ms pc loc (.int x :: st) M Q := by
  intro p e R s m args below meth c H locs cells slots Z ls hF hK hR hP hS hL hz hret
  obtain ⟨hd, rfl⟩ := hd
  exact lv_ineg hF.1 hF.2.1 hd (k p e R s m args below meth c H locs cells slots Z ls hF hK hR hP hS hL hz hret)
theorem hg_ladd {x y : Int64} (hd : hg_D Y pc pc' 1 .ladd) (k : hg_WP l E d Y mc ms pc' loc (.long (x + y) :: st) M Q) : hg_WP l E d Y mc ms pc loc (.long y :: .long x :: st) M Q := by
  intro p e R s m args below meth c H locs cells slots Z ls hF hK hR hP hS hL hz hret
  obtain ⟨hd, rfl⟩ := hd
  exact lv_ladd hF.1 hF.2.1 hd (k p e R s m args below meth c H locs cells slots Z ls hF hK hR hP hS hL hz hret)
theorem hg_land {x y : Int64} (hd : hg_D Y pc pc' 1 .land) (k : hg_WP l E d Y mc ms pc' loc (.long (x &&& y) :: st) M Q) : hg_WP l E d Y mc ms pc loc (.long y :: .long x :: st) M Q := by
  intro p e R s m args below meth c H locs cells slots Z ls hF hK hR hP hS hL hz hret
  obtain ⟨hd, rfl⟩ := hd
  exact lv_land hF.1 hF.2.1 hd (k p e R s m args below meth c H locs cells slots Z ls hF hK hR hP hS hL hz hret)
theorem hg_lor {x y : Int64} (hd : hg_D Y pc pc' 1 .lor) (k : hg_WP l E d Y mc ms pc' loc (.long (x ||| y) :: st) M Q) : hg_WP l E d Y mc ms pc loc (.long y :: .long x :: st) M Q := by
  intro p e R s m args below meth c H locs cells slots Z ls hF hK hR hP hS hL hz hret
  obtain ⟨hd, rfl⟩ := hd
  exact lv_lor hF.1 hF.2.1 hd (k p e R s m args below meth c H locs cells slots Z ls hF hK hR hP hS hL hz hret)
theorem hg_ldiv {x y : Int64} (hd : hg_D Y pc pc' 1 .ldiv) (hy : ¬ y = 0) (k : hg_WP l E d Y mc ms pc' loc (.long (x / y) :: st) M Q) : hg_WP l E d Y mc ms pc loc (.long y :: .long x :: st) M Q := by
  intro p e R s m args below meth c H locs cells slots Z ls hF hK hR hP hS hL hz hret
  obtain ⟨hd, rfl⟩ := hd
  exact lv_ldiv hF.1 hF.2.1 hd hy (k p e R s m args below meth c H locs cells slots Z ls hF hK hR hP hS hL hz hret)
theorem hg_lrem {x y : Int64} (hd : hg_D Y pc pc' 1 .lrem) (hy : ¬ y = 0) (k : hg_WP l E d Y mc ms pc' loc (.long (x - x / y * y) :: st) M Q) : hg_WP l E d Y mc ms pc loc (.long y :: .long x :: st) M Q := by
  intro p e R s m args below meth c H locs cells slots Z ls hF hK hR hP hS hL hz hret
  obtain ⟨hd, rfl⟩ := hd
  exact lv_lrem hF.1 hF.2.1 hd hy (k p e R s m args below meth c H locs cells slots Z ls hF hK hR hP hS hL hz hret)
theorem hg_lshl {x : Int64} {y : Int32} (hd : hg_D Y pc pc' 1 .lshl) (k : hg_WP l E d Y mc ms pc' loc (.long (x <<< (y.toInt64 &&& 63)) :: st) M Q) : hg_WP l E d Y mc ms pc loc (.int y :: .long x :: st) M Q := by
  intro p e R s m args below meth c H locs cells slots Z ls hF hK hR hP hS hL hz hret
  obtain ⟨hd, rfl⟩ := hd
  exact lv_lshl hF.1 hF.2.1 hd rfl (k p e R s m args below meth c H locs cells slots Z ls hF hK hR hP hS hL hz hret)
theorem hg_lcmp {x y : Int64} (hd : hg_D Y pc pc' 1 .lcmp) (k : hg_WP l E d Y mc ms pc' loc (.int (lg_cmp x y) :: st) M Q) : hg_WP l E d Y mc ms pc loc (.long y :: .long x :: st) M Q := by
  intro p e R s m args below meth c H locs cells slots Z ls hF hK hR hP hS hL hz hret
  obtain ⟨hd, rfl⟩ := hd
  exact W.lcmp hF.1 hF.2.1 hd (k p e R s m args below meth c H locs cells slots Z ls hF hK hR hP hS hL hz hret)
theorem hg_i2l {x : Int32} (hd : hg_D Y pc pc' 1 .i2l) (k : hg_WP l E d Y mc ms pc' loc (.long x.toInt64 :: st) M Q) : hg_WP l E d Y mc ms pc loc (.int x :: st) M Q := by
  intro p e R s m args below meth c H locs cells slots Z ls hF hK hR hP hS hL hz hret
  obtain ⟨hd, rfl⟩ := hd
  exact lv_i2l hF.1 hF.2.1 hd rfl (k p e R s m args below meth c H locs cells slots Z ls hF hK hR hP hS hL hz hret)
theorem hg_l2i {x : Int64} (hd : hg_D Y pc pc' 1 .l2i) (k : hg_WP l E d Y mc ms pc' loc (.int x.toInt32 :: st) M Q) : hg_WP l E d Y mc ms pc loc (.long x :: st) M Q := by
  intro p e R s m args below meth c H locs cells slots Z ls hF hK hR hP hS hL hz hret
  obtain ⟨hd, rfl⟩ := hd
  exact lv_l2i hF.1 hF.2.1 hd rfl (k p e R s m args below meth c H locs cells slots Z ls hF hK hR hP hS hL hz hret)
theorem hg_i2b {x : Int32} (hd : hg_D Y pc pc' 1 .i2b) (k : hg_WP l E d Y mc ms pc' loc (.int x.toInt8.toInt32 :: st) M Q) : hg_WP l E d Y mc ms pc loc (.int x :: st) M Q := by
  intro p e R s m args below meth c H locs cells slots Z ls hF hK hR hP hS hL hz hret
  obtain ⟨hd, rfl⟩ := hd
  exact lv_i2b hF.1 hF.2.1 hd rfl (k p e R s m args below meth c H locs cells slots Z ls hF hK hR hP hS hL hz hret)
theorem hg_i2s {x : Int32} (hd : hg_D Y pc pc' 1 .i2s) (k : hg_WP l E d Y mc ms pc' loc (.int x.toInt16.toInt32 :: st) M Q) : hg_WP l E d Y mc ms pc loc (.int x :: st) M Q := by
  intro p e R s m args below meth c H locs cells slots Z ls hF hK hR hP hS hL hz hret
  obtain ⟨hd, rfl⟩ := hd
  exact lv_i2s hF.1 hF.2.1 hd rfl (k p e R s m args below meth c H locs cells slots Z ls hF hK hR hP hS hL hz hret)
theorem hg_i2c {x : Int32} (hd : hg_D Y pc pc' 1 .i2c) (k : hg_WP l E d Y mc ms pc' loc (.int (x.toUInt32 % 65536).toInt32 :: st) M Q) : hg_WP l E d Y mc ms pc loc (.int x :: st) M Q := by
  intro p e R s m args below meth c H locs cells slots Z ls hF hK hR hP hS hL hz hret
  obtain ⟨hd, rfl⟩ := hd
  exact lv_i2c hF.1 hF.2.1 hd rfl (k p e R s m args below meth c H locs cells slots Z ls hF hK hR hP hS hL hz hret)
theorem hg_dup {a : Value} (hd : hg_D Y pc pc' 1 .dup) (ha : a.category = 1) (k : hg_WP l E d Y mc ms pc' loc (a :: a :: st) M Q) : hg_WP l E d Y mc ms pc loc (a :: st) M Q := by
  intro p e R s m args below meth c H locs cells slots Z ls hF hK hR hP hS hL hz hret
  obtain ⟨hd, rfl⟩ := hd
  exact lv_dup hF.1 hF.2.1 hd ha (k p e R s m args below meth c H locs cells slots Z ls hF hK hR hP hS hL hz hret)
theorem hg_pop {a : Value} (hd : hg_D Y pc pc' 1 .pop) (ha : a.category = 1) (k : hg_WP l E d Y mc ms pc' loc (st) M Q) : hg_WP l E d Y mc ms pc loc (a :: st) M Q := by
  intro p e R s m args below meth c H locs cells slots Z ls hF hK hR hP hS hL hz hret
  obtain ⟨hd, rfl⟩ := hd
  exact lv_pop hF.1 hF.2.1 hd ha (k p e R s m args below meth c H locs cells slots Z ls hF hK hR hP hS hL hz hret)
theorem hg_dup_x1 {a b : Value} (hd : hg_D Y pc pc' 1 .dup_x1) (ha : a.category = 1) (hb : b.category = 1) (k : hg_WP l E d Y mc ms pc' loc (a :: b :: a :: st) M Q) : hg_WP l E d Y mc ms pc loc (a :: b :: st) M Q := by
  intro p e R s m args below meth c H locs cells slots Z ls hF hK hR hP hS hL hz hret
  obtain ⟨hd, rfl⟩ := hd
  exact lv_dup_x1 hF.1 hF.2.1 hd ha hb (k p e R s m args below meth c H locs cells slots Z ls hF hK hR hP hS hL hz hret)
theorem hg_dup2 {a b : Value} (hd : hg_D Y pc pc' 1 .dup2) (ha : a.category = 1) (hb : b.category = 1) (k : hg_WP l E d Y mc ms pc' loc (a :: b :: a :: b :: st) M Q) : hg_WP l E d Y mc ms pc loc (a :: b :: st) M Q := by
  intro p e R s m args below meth c H locs cells slots Z ls hF hK hR hP hS hL hz hret
  obtain ⟨hd, rfl⟩ := hd
  exact lv_dup2_11 hF.1 hF.2.1 hd ha hb (k p e R s m args below meth c H locs cells slots Z ls hF hK hR hP hS hL hz hret)
theorem hg_if_eq {x : Int32} {off : Int} {tgt : Nat} (hd : hg_D Y pc pc' 3 (.ifCond .eq off)) (ht : (pc : Int) + off = (tgt : Int)) (kt : x = 0 → hg_WP l E d Y mc ms tgt loc (st) M Q) (kf : ¬ (x = 0) → hg_WP l E d Y mc ms pc' loc (st) M Q) : hg_WP l E d Y mc ms pc loc (.int x :: st) M Q := by
  intro p e R s m args below meth c H locs cells slots Z ls hF hK hR hP hS hL hz hret
  obtain ⟨hd, rfl⟩ := hd
  exact lv_if_eq hF.1 hF.2.1 hd ht (fun q => kt q p e R s m args below meth c H locs cells slots Z ls hF hK hR hP hS hL hz hret) (fun q => kf q p e R s m args below meth c H locs cells slots Z ls hF hK hR hP hS hL hz hret)
theorem hg_icmp_eq {x y : Int32} {off : Int} {tgt : Nat} (hd : hg_D Y pc pc' 3 (.if_icmp .eq off)) (ht : (pc : Int) + off = (tgt : Int)) (kt : x = y → hg_WP l E d Y mc ms tgt loc (st) M Q) (kf : ¬ (x = y) → hg_WP l E d Y mc ms pc' loc (st) M Q) : hg_WP l E d Y mc ms pc loc (.int y :: .int x :: st) M Q := by
  intro p e R s m args below meth c H locs cells slots Z ls hF hK hR hP hS hL hz hret
  obtain ⟨hd, rfl⟩ := hd
  exact lv_icmp_eq hF.1 hF.2.1 hd ht (fun q => kt q p e R s m args below meth c H locs cells slots Z ls hF hK hR hP hS hL hz hret) (fun q => kf q p e R s m args below meth c H locs cells slots Z ls hF hK hR hP hS hL hz hret)
theorem hg_if_ne {x : Int32} {off : Int} {tgt : Nat} (hd : hg_D Y pc pc' 3 (.ifCond .ne off)) (ht : (pc : Int) + off = (tgt : Int)) (kt : ¬ x = 0 → hg_WP l E d Y mc ms tgt loc (st) M Q) (kf : ¬ (¬ x = 0) → hg_WP l E d Y mc ms pc' loc (st) M Q) : hg_WP l E d Y mc ms pc loc (.int x :: st) M Q := by
  intro p e R s m args below meth c H locs cells slots Z ls hF hK hR hP hS hL hz hret
  obtain ⟨hd, rfl⟩ := hd
  exact lv_if_ne hF.1 hF.2.1 hd ht (fun q => kt q p e R s m args below meth c H locs cells slots Z ls hF hK hR hP hS hL hz hret) (fun q => kf (fun h => h q) p e R s m args below meth c H locs cells slots Z ls hF hK hR hP hS hL hz hret)
theorem hg_icmp_ne {x y : Int32} {off : Int} {tgt : Nat} (hd : hg_D Y pc pc' 3 (.if_icmp .ne off)) (ht : (pc : Int) + off = (tgt : Int)) (kt : ¬ x = y → hg_WP l E d Y mc ms tgt loc (st) M Q) (kf : ¬ (¬ x = y) → hg_WP l E d Y mc ms pc' loc (st) M Q) : hg_WP l E d Y mc ms pc loc (.int y :: .int x :: st) M Q := by
  intro p e R s m args below meth c H locs cells slots Z ls hF hK hR hP hS hL hz hret
  obtain ⟨hd, rfl⟩ := hd
  exact lv_icmp_ne hF.1 hF.2.1 hd ht (fun q => kt q p e R s m args below meth c H locs cells slots Z ls hF hK hR hP hS hL hz hret) (fun q => kf (fun h => h q) p e R s m args below meth c H locs cells slots Z ls hF hK hR hP hS hL hz hret)
theorem hg_if_lt {x : Int32} {off : Int} {tgt : Nat} (hd : hg_D Y pc pc' 3 (.ifCond .lt off)) (ht : (pc : Int) + off = (tgt : Int)) (kt : x < 0 → hg_WP l E d Y mc ms tgt loc (st) M Q) (kf : ¬ (x < 0) → hg_WP l E d Y mc ms pc' loc (st) M Q) : hg_WP l E d Y mc ms pc loc (.int x :: st) M Q := by
  intro p e R s m args below meth c H locs cells slots Z ls hF hK hR hP hS hL hz hret
  obtain ⟨hd, rfl⟩ := hd
  exact lv_if_lt hF.1 hF.2.1 hd ht (fun q => kt q p e R s m args below meth c H locs cells slots Z ls hF hK hR hP hS hL hz hret) (fun q => kf q p e R s m args below meth c H locs cells slots Z ls hF hK hR hP hS hL hz hret)
theorem hg_icmp_lt {x y : Int32} {off : Int} {tgt : Nat} (hd : hg_D Y pc pc' 3 (.if_icmp .lt off)) (ht : (pc : Int) + off = (tgt : Int)) (kt : x < y → hg_WP l E d Y mc ms tgt loc (st) M Q) (kf : ¬ (x < y) → hg_WP l E d Y mc ms pc' loc (st) M Q) : hg_WP l E d Y mc ms pc loc (.int y :: .int x :: st) M Q := by
  intro p e R s m args below meth c H locs cells slots Z ls hF hK hR hP hS hL hz hret
  obtain ⟨hd, rfl⟩ := hd
  exact lv_icmp_lt hF.1 hF.2.1 hd ht (fun q => kt q p e R s m args below meth c H locs cells slots Z ls hF hK hR hP hS hL hz hret) (fun q => kf q p e R s m args below meth c H locs cells slots Z ls hF hK hR hP hS hL hz hret)
theorem hg_if_ge {x : Int32} {off : Int} {tgt : Nat} (hd : hg_D Y pc pc' 3 (.ifCond .ge off)) (ht : (pc : Int) + off = (tgt : Int)) (kt : 0 ≤ x → hg_WP l E d Y mc ms tgt loc (st) M Q) (kf : ¬ (0 ≤ x) → hg_WP l E d Y mc ms pc' loc (st) M Q) : hg_WP l E d Y mc ms pc loc (.int x :: st) M Q := by
  intro p e R s m args below meth c H locs cells slots Z ls hF hK hR hP hS hL hz hret
  obtain ⟨hd, rfl⟩ := hd
  exact lv_if_ge hF.1 hF.2.1 hd ht (fun q => kt q p e R s m args below meth c H locs cells slots Z ls hF hK hR hP hS hL hz hret) (fun q => kf q p e R s m args below meth c H locs cells slots Z ls hF hK hR hP hS hL hz hret)
theorem hg_icmp_ge {x y : Int32} {off : Int} {tgt : Nat} (hd : hg_D Y pc pc' 3 (.if_icmp .ge off)) (ht : (pc : Int) + off = (tgt : Int)) (kt : y ≤ x → hg_WP l E d Y mc ms tgt loc (st) M Q) (kf : ¬ (y ≤ x) → hg_WP l E d Y mc ms pc' loc (st) M Q) : hg_WP l E d Y mc ms pc loc (.int y :: .int x :: st) M Q := by
  intro p e R s m args below meth c H locs cells slots Z ls hF hK hR hP hS hL hz hret
  obtain ⟨hd, rfl⟩ := hd
  exact lv_icmp_ge hF.1 hF.2.1 hd ht (fun q => kt q p e R s m args below meth c H locs cells slots Z ls hF hK hR hP hS hL hz hret) (fun q => kf q p e R s m args below meth c H locs cells slots Z ls hF hK hR hP hS hL hz hret)
theorem hg_if_gt {x : Int32} {off : Int} {tgt : Nat} (hd : hg_D Y pc pc' 3 (.ifCond .gt off)) (ht : (pc : Int) + off = (tgt : Int)) (kt : 0 < x → hg_WP l E d Y mc ms tgt loc (st) M Q) (kf : ¬ (0 < x) → hg_WP l E d Y mc ms pc' loc (st) M Q) : hg_WP l E d Y mc ms pc loc (.int x :: st) M Q := by
  intro p e R s m args below meth c H locs cells slots Z ls hF hK hR hP hS hL hz hret
  obtain ⟨hd, rfl⟩ := hd
  exact lv_if_gt hF.1 hF.2.1 hd ht (fun q => kt q p e R s m args below meth c H locs cells slots Z ls hF hK hR hP hS hL hz hret) (fun q => kf q p e R s m args below meth c H locs cells slots Z ls hF hK hR hP hS hL hz hret)
theorem hg_icmp_gt {x y : Int32} {off : Int} {tgt : Nat} (hd : hg_D Y pc pc' 3 (.if_icmp .gt off)) (ht : (pc : Int) + off = (tgt : Int)) (kt : y < x → hg_WP l E d Y mc ms tgt loc (st) M Q) (kf : ¬ (y < x) → hg_WP l E d Y mc ms pc' loc (st) M Q) : hg_WP l E d Y mc ms pc loc (.int y :: .int x :: st) M Q := by
  intro p e R s m args below meth c H locs cells slots Z ls hF hK hR hP hS hL hz hret
  obtain ⟨hd, rfl⟩ := hd
  exact lv_icmp_gt hF.1 hF.2.1 hd ht (fun q => kt q p e R s m args below meth c H locs cells slots Z ls hF hK hR hP hS hL hz hret) (fun q => kf q p e R s m args below meth c H locs cells slots Z ls hF hK hR hP hS hL hz hret)
theorem hg_if_le {x : Int32} {off : Int} {tgt : Nat} (hd : hg_D Y pc pc' 3 (.ifCond .le off)) (ht : (pc : Int) + off = (tgt : Int)) (kt : x ≤ 0 → hg_WP l E d Y mc ms tgt loc (st) M Q) (kf : ¬ (x ≤ 0) → hg_WP l E d Y mc ms pc' loc (st) M Q) : hg_WP l E d Y mc ms pc loc (.int x :: st) M Q := by
  intro p e R s m args below meth c H locs cells slots Z ls hF hK hR hP hS hL hz hret
  obtain ⟨hd, rfl⟩ := hd
  exact lv_if_le hF.1 hF.2.1 hd ht (fun q => kt q p e R s m args below meth c H locs cells slots Z ls hF hK hR hP hS hL hz hret) (fun q => kf q p e R s m args below meth c H locs cells slots Z ls hF hK hR hP hS hL hz hret)
theorem hg_icmp_le {x y : Int32} {off : Int} {tgt : Nat} (hd : hg_D Y pc pc' 3 (.if_icmp .le off)) (ht : (pc : Int) + off = (tgt : Int)) (kt : x ≤ y → hg_WP l E d Y mc ms tgt loc (st) M Q) (kf : ¬ (x ≤ y) → hg_WP l E d Y mc ms pc' loc (st) M Q) : hg_WP l E d Y mc ms pc loc (.int y :: .int x :: st) M Q := by
  intro p e R s m args below meth c H locs cells slots Z ls hF hK hR hP hS hL hz hret
  obtain ⟨hd, rfl⟩ := hd
  exact lv_icmp_le hF.1 hF.2.1 hd ht (fun q => kt q p e R s m args below meth c H locs cells slots Z ls hF hK hR hP hS hL hz hret) (fun q => kf q p e R s m args below meth c H locs cells slots Z ls hF hK hR hP hS hL hz hret)
theorem hg_goto  {off : Int} {tgt : Nat} (hd : hg_D Y pc pc' 3 (.goto off)) (ht : (pc : Int) + off = (tgt : Int)) (k : hg_WP l E d Y mc ms tgt loc (st) M Q) : hg_WP l E d Y mc ms pc loc (st) M Q := by
  intro p e R s m args below meth c H locs cells slots Z ls hF hK hR hP hS hL hz hret
  exact lv_goto hF.1 hF.2.1 hd.1 ht (k p e R s m args below meth c H locs cells slots Z ls hF hK hR hP hS hL hz hret)
theorem hg_ifnonnull {x : Nat} {off : Int} {tgt : Nat} (hd : hg_D Y pc pc' 3 (.ifnonnull off)) (ht : (pc : Int) + off = (tgt : Int)) (k : hg_WP l E d Y mc ms tgt loc (st) M Q) : hg_WP l E d Y mc ms pc loc (.ref x :: st) M Q := by
  intro p e R s m args below meth c H locs cells slots Z ls hF hK hR hP hS hL hz hret
  exact lv_ifnonnull hF.1 hF.2.1 hd.1 ht (k p e R s m args below meth c H locs cells slots Z ls hF hK hR hP hS hL hz hret)
theorem hg_ifnullN  {off : Int} {tgt : Nat} (hd : hg_D Y pc pc' 3 (.ifnull off)) (ht : (pc : Int) + off = (tgt : Int)) (k : hg_WP l E d Y mc ms tgt loc (st) M Q) : hg_WP l E d Y mc ms pc loc (.null :: st) M Q := by
  intro p e R s m args below meth c H locs cells slots Z ls hF hK hR hP hS hL hz hret
  exact lv_ifnullN hF.1 hF.2.1 hd.1 ht (k p e R s m args below meth c H locs cells slots Z ls hF hK hR hP hS hL hz hret)
theorem hg_ifnull {x : Nat} {off : Int} (hd : hg_D Y pc pc' 3 (.ifnull off)) (k : hg_WP l E d Y mc ms pc' loc (st) M Q) : hg_WP l E d Y mc ms pc loc (.ref x :: st) M Q := by
  intro p e R s m args below meth c H locs cells slots Z ls hF hK hR hP hS hL hz hret
  obtain ⟨hd, rfl⟩ := hd
  exact lv_ifnull hF.1 hF.2.1 hd (k p e R s m args below meth c H locs cells slots Z ls hF hK hR hP hS hL hz hret)
theorem hg_ifnonnullN {off : Int} (hd : hg_D Y pc pc' 3 (.ifnonnull off)) (k : hg_WP l E d Y mc ms pc' loc (st) M Q) : hg_WP l E d Y mc ms pc loc (.null :: st) M Q := by
  intro p e R s m args below meth c H locs cells slots Z ls hF hK hR hP hS hL hz hret
  obtain ⟨hd, rfl⟩ := hd
  exact lv_ifnonnullN hF.1 hF.2.1 hd (k p e R s m args below meth c H locs cells slots Z ls hF hK hR hP hS hL hz hret)
def hg_c1 : Option Value → Bool
  | some v => v.category == 1
  | none => true
theorem hg_lok.get {ls : Array Slot} {n : Nat} {loc : List (Option Value)} (h : hg_lok ls n loc) {i : Nat} {v : Value} (hi : loc[i]? = some (some v)) : ls[i]? = some (.val v) := by
  obtain ⟨-, lv, h1, h2⟩ := h
  exact h1.2.2 (i, v) (h2 i v hi)
theorem hg_lok.lt {ls : Array Slot} {n : Nat} {loc : List (Option Value)} (h : hg_lok ls n loc) {i : Nat} {v : Option Value} (hi : loc[i]? = some v) : i < n := by
  rw [← h.1]
  exact (List.getElem?_eq_some_iff.mp hi).1
theorem hg_lok.put {lv : List (Nat × Value)} {ls : Array Slot} {n : Nat} {loc : List (Option Value)} (h0 : loc.length = n) (h2 : ∀ i v, loc[i]? = some (some v) → (i, v) ∈ lv) {i : Nat} {v : Value} (hp : ∀ w, 0 < i → loc[i - 1]? = some (some w) → w.category = 1) (h1 : lv_has ls n ((i, v) :: lv.filter (fun q => !(q.1 == i) && !(q.1 + 1 == i && q.2.category == 2)))) : hg_lok ls n (loc.set i (some v)) := by
  refine ⟨by simp [h0], _, h1, fun j w hj => ?_⟩
  by_cases hji : j = i
  · subst hji
    have hlt : j < loc.length := by
      rcases Nat.lt_or_ge j loc.length with q | q
      · exact q
      · rw [List.getElem?_eq_none (by simpa using q)] at hj; cases hj
    rw [List.getElem?_set_self hlt] at hj
    cases hj
    exact List.mem_cons_self
  · rw [List.getElem?_set_ne (fun q => hji q.symm)] at hj
    refine List.mem_cons_of_mem _ (List.mem_filter.mpr ⟨h2 j w hj, ?_⟩)
    by_cases hq : j + 1 = i
    · subst hq
      have := hp w (Nat.succ_pos j) (by simpa using hj)
      simp [this]
    · simp [hji, hq]
theorem hg_lok.putl {lv : List (Nat × Value)} {ls : Array Slot} {n : Nat} {loc : List (Option Value)} (h0 : loc.length = n) (h2 : ∀ i v, loc[i]? = some (some v) → (i, v) ∈ lv) {i : Nat} {v : Value} (hp : ∀ w, 0 < i → loc[i - 1]? = some (some w) → w.category = 1) (h1 : lv_has ls n ((i, v) :: lv.filter (fun q => !(q.1 == i) && (!(q.1 == i + 1) && !(q.1 + 1 == i && q.2.category == 2))))) : hg_lok ls n ((loc.set i (some v)).set (i + 1) none) := by
  refine ⟨by simp [h0], _, h1, fun j w hj => ?_⟩
  by_cases hj1 : j = i + 1
  · subst hj1
    exfalso
    by_cases hlt : i + 1 < (loc.set i (some v)).length
    · rw [List.getElem?_set_self hlt] at hj; cases hj
    · rw [List.getElem?_eq_none (by simpa using hlt)] at hj; cases hj
  · rw [List.getElem?_set_ne (fun q => hj1 q.symm)] at hj
    by_cases hji : j = i
    · subst hji
      have hlt : j < loc.length := by
        rcases Nat.lt_or_ge j loc.length with q | q
        · exact q
        · rw [List.getElem?_eq_none (by simpa using q)] at hj; cases hj
      rw [List.getElem?_set_self hlt] at hj
      cases hj
      exact List.mem_cons_self
    · rw [List.getElem?_set_ne (fun q => hji q.symm)] at hj
      refine List.mem_cons_of_mem _ (List.mem_filter.mpr ⟨h2 j w hj, ?_⟩)
      by_cases hq : j + 1 = i
      · subst hq
        have := hp w (Nat.succ_pos j) (by simpa using hj)
        simp [this]
        try omega
      · simp [hji, hj1, hq]
theorem hg_iload0 {x : Int32} {br : List (Option Value)} (hd : hg_D Y pc pc' 1 (.iload_n 0)) (k : hg_WP l E d Y mc ms pc' (some (.int x) :: br) (.int x :: st) M Q) : hg_WP l E d Y mc ms pc (some (.int x) :: br) (st) M Q := by
  intro p e R s m args below meth c H locs cells slots Z ls hF hK hR hP hS hL hz hret
  obtain ⟨hd, rfl⟩ := hd
  exact lv_iload_n hF.1 hF.2.1 hd rfl (hL.get (i := 0) rfl) (k p e R s m args below meth c H locs cells slots Z ls hF hK hR hP hS hL hz hret)
theorem hg_lload0 {x : Int64} {br : List (Option Value)} (hd : hg_D Y pc pc' 1 (.lload_n 0)) (k : hg_WP l E d Y mc ms pc' (some (.long x) :: br) (.long x :: st) M Q) : hg_WP l E d Y mc ms pc (some (.long x) :: br) (st) M Q := by
  intro p e R s m args below meth c H locs cells slots Z ls hF hK hR hP hS hL hz hret
  obtain ⟨hd, rfl⟩ := hd
  exact lv_lload_n hF.1 hF.2.1 hd rfl (hL.get (i := 0) rfl) (k p e R s m args below meth c H locs cells slots Z ls hF hK hR hP hS hL hz hret)
theorem hg_aload0 {x : Nat} {br : List (Option Value)} (hd : hg_D Y pc pc' 1 (.aload_n 0)) (k : hg_WP l E d Y mc ms pc' (some (.ref x) :: br) (.ref x :: st) M Q) : hg_WP l E d Y mc ms pc (some (.ref x) :: br) (st) M Q := by
  intro p e R s m args below meth c H locs cells slots Z ls hF hK hR hP hS hL hz hret
  obtain ⟨hd, rfl⟩ := hd
  exact lv_aload_n hF.1 hF.2.1 hd rfl (hL.get (i := 0) rfl) (k p e R s m args below meth c H locs cells slots Z ls hF hK hR hP hS hL hz hret)
theorem hg_istore0 {x : Int32} {br0 : Option Value} {br : List (Option Value)} (hd : hg_D Y pc pc' 1 (.istore_n 0)) (k : hg_WP l E d Y mc ms pc' (some (.int x) :: br) (st) M Q) : hg_WP l E d Y mc ms pc (br0 :: br) (.int x :: st) M Q := by
  intro p e R s m args below meth c H locs cells slots Z ls hF hK hR hP hS hL hz hret
  obtain ⟨hd, rfl⟩ := hd
  obtain ⟨h0, lv, h1, h2⟩ := id hL
  exact lv_istore_n hF.1 hF.2.1 hd rfl h1 (hL.lt (i := 0) rfl) rfl (fun ls' h3 => k p e R s m args below meth c H locs cells slots Z ls' hF hK hR hP hS (hg_lok.put h0 h2 (i := 0) (fun w hw => absurd hw (Nat.lt_irrefl 0)) h3) hz hret)
theorem hg_astore0 {x : Nat} {br0 : Option Value} {br : List (Option Value)} (hd : hg_D Y pc pc' 1 (.astore_n 0)) (k : hg_WP l E d Y mc ms pc' (some (.ref x) :: br) (st) M Q) : hg_WP l E d Y mc ms pc (br0 :: br) (.ref x :: st) M Q := by
  intro p e R s m args below meth c H locs cells slots Z ls hF hK hR hP hS hL hz hret
  obtain ⟨hd, rfl⟩ := hd
  obtain ⟨h0, lv, h1, h2⟩ := id hL
  exact lv_astore_n hF.1 hF.2.1 hd rfl h1 (hL.lt (i := 0) rfl) rfl (fun ls' h3 => k p e R s m args below meth c H locs cells slots Z ls' hF hK hR hP hS (hg_lok.put h0 h2 (i := 0) (fun w hw => absurd hw (Nat.lt_irrefl 0)) h3) hz hret)
theorem hg_astoreN0 {br0 : Option Value} {br : List (Option Value)} (hd : hg_D Y pc pc' 1 (.astore_n 0)) (k : hg_WP l E d Y mc ms pc' (some (.null) :: br) (st) M Q) : hg_WP l E d Y mc ms pc (br0 :: br) (.null :: st) M Q := by
  intro p e R s m args below meth c H locs cells slots Z ls hF hK hR hP hS hL hz hret
  obtain ⟨hd, rfl⟩ := hd
  obtain ⟨h0, lv, h1, h2⟩ := id hL
  exact lv_astore_nN hF.1 hF.2.1 hd rfl h1 (hL.lt (i := 0) rfl) rfl (fun ls' h3 => k p e R s m args below meth c H locs cells slots Z ls' hF hK hR hP hS (hg_lok.put h0 h2 (i := 0) (fun w hw => absurd hw (Nat.lt_irrefl 0)) h3) hz hret)
theorem hg_lstore0 {x : Int64} {br0 br1 : Option Value} {br : List (Option Value)} (hd : hg_D Y pc pc' 1 (.lstore_n 0)) (k : hg_WP l E d Y mc ms pc' (some (.long x) :: none :: br) (st) M Q) : hg_WP l E d Y mc ms pc (br0 :: br1 :: br) (.long x :: st) M Q := by
  intro p e R s m args below meth c H locs cells slots Z ls hF hK hR hP hS hL hz hret
  obtain ⟨hd, rfl⟩ := hd
  obtain ⟨h0, lv, h1, h2⟩ := id hL
  exact lv_lstore_n hF.1 hF.2.1 hd rfl h1 (hL.lt (i := 1) rfl) rfl (fun ls' h3 => k p e R s m args below meth c H locs cells slots Z ls' hF hK hR hP hS (hg_lok.putl h0 h2 (i := 0) (fun w hw => absurd hw (Nat.lt_irrefl 0)) h3) hz hret)
theorem hg_iinc0 {x v : Int32} {n : Int} {br : List (Option Value)} (hd : hg_D Y pc pc' 3 (.iinc 0 n)) (hv : x + Int32.ofInt n = v) (k : hg_WP l E d Y mc ms pc' (some (.int v) :: br) (st) M Q) : hg_WP l E d Y mc ms pc (some (.int x) :: br) (st) M Q := by
  intro p e R s m args below meth c H locs cells slots Z ls hF hK hR hP hS hL hz hret
  obtain ⟨hd, rfl⟩ := hd
  obtain ⟨h0, lv, h1, h2⟩ := id hL
  obtain ⟨q, hq⟩ := List.getElem?_of_mem (h2 0 (.int x) rfl)
  exact lv_iinc hF.1 hF.2.1 hd h1 hq hv (hL.lt (i := 0) rfl) rfl (fun ls' h3 => k p e R s m args below meth c H locs cells slots Z ls' hF hK hR hP hS (hg_lok.put h0 h2 (i := 0) (fun w hw => absurd hw (Nat.lt_irrefl 0)) h3) hz hret)
theorem hg_iload1 {x : Int32} {b0 : Option Value} {br : List (Option Value)} (hd : hg_D Y pc pc' 1 (.iload_n 1)) (k : hg_WP l E d Y mc ms pc' (b0 :: some (.int x) :: br) (.int x :: st) M Q) : hg_WP l E d Y mc ms pc (b0 :: some (.int x) :: br) (st) M Q := by
  intro p e R s m args below meth c H locs cells slots Z ls hF hK hR hP hS hL hz hret
  obtain ⟨hd, rfl⟩ := hd
  exact lv_iload_n hF.1 hF.2.1 hd rfl (hL.get (i := 1) rfl) (k p e R s m args below meth c H locs cells slots Z ls hF hK hR hP hS hL hz hret)
theorem hg_lload1 {x : Int64} {b0 : Option Value} {br : List (Option Value)} (hd : hg_D Y pc pc' 1 (.lload_n 1)) (k : hg_WP l E d Y mc ms pc' (b0 :: some (.long x) :: br) (.long x :: st) M Q) : hg_WP l E d Y mc ms pc (b0 :: some (.long x) :: br) (st) M Q := by
  intro p e R s m args below meth c H locs cells slots Z ls hF hK hR hP hS hL hz hret
  obtain ⟨hd, rfl⟩ := hd
  exact lv_lload_n hF.1 hF.2.1 hd rfl (hL.get (i := 1) rfl) (k p e R s m args below meth c H locs cells slots Z ls hF hK hR hP hS hL hz hret)
theorem hg_aload1 {x : Nat} {b0 : Option Value} {br : List (Option Value)} (hd : hg_D Y pc pc' 1 (.aload_n 1)) (k : hg_WP l E d Y mc ms pc' (b0 :: some (.ref x) :: br) (.ref x :: st) M Q) : hg_WP l E d Y mc ms pc (b0 :: some (.ref x) :: br) (st) M Q := by
  intro p e R s m args below meth c H locs cells slots Z ls hF hK hR hP hS hL hz hret
  obtain ⟨hd, rfl⟩ := hd
  exact lv_aload_n hF.1 hF.2.1 hd rfl (hL.get (i := 1) rfl) (k p e R s m args below meth c H locs cells slots Z ls hF hK hR hP hS hL hz hret)
theorem hg_istore1 {x : Int32} {b0 br0 : Option Value} {br : List (Option Value)} (hd : hg_D Y pc pc' 1 (.istore_n 1)) (hb : hg_c1 b0 = true) (k : hg_WP l E d Y mc ms pc' (b0 :: some (.int x) :: br) (st) M Q) : hg_WP l E d Y mc ms pc (b0 :: br0 :: br) (.int x :: st) M Q := by
  intro p e R s m args below meth c H locs cells slots Z ls hF hK hR hP hS hL hz hret
  obtain ⟨hd, rfl⟩ := hd
  obtain ⟨h0, lv, h1, h2⟩ := id hL
  exact lv_istore_n hF.1 hF.2.1 hd rfl h1 (hL.lt (i := 1) rfl) rfl (fun ls' h3 => k p e R s m args below meth c H locs cells slots Z ls' hF hK hR hP hS (hg_lok.put h0 h2 (i := 1) (fun w _ hw => by have e : b0 = some w := Option.some.inj hw; subst e; exact beq_iff_eq.mp hb) h3) hz hret)
theorem hg_astore1 {x : Nat} {b0 br0 : Option Value} {br : List (Option Value)} (hd : hg_D Y pc pc' 1 (.astore_n 1)) (hb : hg_c1 b0 = true) (k : hg_WP l E d Y mc ms pc' (b0 :: some (.ref x) :: br) (st) M Q) : hg_WP l E d Y mc ms pc (b0 :: br0 :: br) (.ref x :: st) M Q := by
  intro p e R s m args below meth c H locs cells slots Z ls hF hK hR hP hS hL hz hret
  obtain ⟨hd, rfl⟩ := hd
  obtain ⟨h0, lv, h1, h2⟩ := id hL
  exact lv_astore_n hF.1 hF.2.1 hd rfl h1 (hL.lt (i := 1) rfl) rfl (fun ls' h3 => k p e R s m args below meth c H locs cells slots Z ls' hF hK hR hP hS (hg_lok.put h0 h2 (i := 1) (fun w _ hw => by have e : b0 = some w := Option.some.inj hw; subst e; exact beq_iff_eq.mp hb) h3) hz hret)
theorem hg_astoreN1 {b0 br0 : Option Value} {br : List (Option Value)} (hd : hg_D Y pc pc' 1 (.astore_n 1)) (hb : hg_c1 b0 = true) (k : hg_WP l E d Y mc ms pc' (b0 :: some (.null) :: br) (st) M Q) : hg_WP l E d Y mc ms pc (b0 :: br0 :: br) (.null :: st) M Q := by
  intro p e R s m args below meth c H locs cells slots Z ls hF hK hR hP hS hL hz hret
  obtain ⟨hd, rfl⟩ := hd
  obtain ⟨h0, lv, h1, h2⟩ := id hL
  exact lv_astore_nN hF.1 hF.2.1 hd rfl h1 (hL.lt (i := 1) rfl) rfl (fun ls' h3 => k p e R s m args below meth c H locs cells slots Z ls' hF hK hR hP hS (hg_lok.put h0 h2 (i := 1) (fun w _ hw => by have e : b0 = some w := Option.some.inj hw; subst e; exact beq_iff_eq.mp hb) h3) hz hret)
theorem hg_lstore1 {x : Int64} {b0 br0 br1 : Option Value} {br : List (Option Value)} (hd : hg_D Y pc pc' 1 (.lstore_n 1)) (hb : hg_c1 b0 = true) (k : hg_WP l E d Y mc ms pc' (b0 :: some (.long x) :: none :: br) (st) M Q) : hg_WP l E d Y mc ms pc (b0 :: br0 :: br1 :: br) (.long x :: st) M Q := by
  intro p e R s m args below meth c H locs cells slots Z ls hF hK hR hP hS hL hz hret
  obtain ⟨hd, rfl⟩ := hd
  obtain ⟨h0, lv, h1, h2⟩ := id hL
  exact lv_lstore_n hF.1 hF.2.1 hd rfl h1 (hL.lt (i := 2) rfl) rfl (fun ls' h3 => k p e R s m args below meth c H locs cells slots Z ls' hF hK hR hP hS (hg_lok.putl h0 h2 (i := 1) (fun w _ hw => by have e : b0 = some w := Option.some.inj hw; subst e; exact beq_iff_eq.mp hb) h3) hz hret)
theorem hg_iinc1 {x v : Int32} {n : Int} {b0 : Option Value} {br : List (Option Value)} (hd : hg_D Y pc pc' 3 (.iinc 1 n)) (hb : hg_c1 b0 = true) (hv : x + Int32.ofInt n = v) (k : hg_WP l E d Y mc ms pc' (b0 :: some (.int v) :: br) (st) M Q) : hg_WP l E d Y mc ms pc (b0 :: some (.int x) :: br) (st) M Q := by
  intro p e R s m args below meth c H locs cells slots Z ls hF hK hR hP hS hL hz hret
  obtain ⟨hd, rfl⟩ := hd
  obtain ⟨h0, lv, h1, h2⟩ := id hL
  obtain ⟨q, hq⟩ := List.getElem?_of_mem (h2 1 (.int x) rfl)
  exact lv_iinc hF.1 hF.2.1 hd h1 hq hv (hL.lt (i := 1) rfl) rfl (fun ls' h3 => k p e R s m args below meth c H locs cells slots Z ls' hF hK hR hP hS (hg_lok.put h0 h2 (i := 1) (fun w _ hw => by have e : b0 = some w := Option.some.inj hw; subst e; exact beq_iff_eq.mp hb) h3) hz hret)
theorem hg_iload2 {x : Int32} {b0 b1 : Option Value} {br : List (Option Value)} (hd : hg_D Y pc pc' 1 (.iload_n 2)) (k : hg_WP l E d Y mc ms pc' (b0 :: b1 :: some (.int x) :: br) (.int x :: st) M Q) : hg_WP l E d Y mc ms pc (b0 :: b1 :: some (.int x) :: br) (st) M Q := by
  intro p e R s m args below meth c H locs cells slots Z ls hF hK hR hP hS hL hz hret
  obtain ⟨hd, rfl⟩ := hd
  exact lv_iload_n hF.1 hF.2.1 hd rfl (hL.get (i := 2) rfl) (k p e R s m args below meth c H locs cells slots Z ls hF hK hR hP hS hL hz hret)
theorem hg_lload2 {x : Int64} {b0 b1 : Option Value} {br : List (Option Value)} (hd : hg_D Y pc pc' 1 (.lload_n 2)) (k : hg_WP l E d Y mc ms pc' (b0 :: b1 :: some (.long x) :: br) (.long x :: st) M Q) : hg_WP l E d Y mc ms pc (b0 :: b1 :: some (.long x) :: br) (st) M Q := by
  intro p e R s m args below meth c H locs cells slots Z ls hF hK hR hP hS hL hz hret
  obtain ⟨hd, rfl⟩ := hd
  exact lv_lload_n hF.1 hF.2.1 hd rfl (hL.get (i := 2) rfl) (k p e R s m args below meth c H locs cells slots Z ls hF hK hR hP hS hL hz hret)
theorem hg_aload2 {x : Nat} {b0 b1 : Option Value} {br : List (Option Value)} (hd : hg_D Y pc pc' 1 (.aload_n 2)) (k : hg_WP l E d Y mc ms pc' (b0 :: b1 :: some (.ref x) :: br) (.ref x :: st) M Q) : hg_WP l E d Y mc ms pc (b0 :: b1 :: some (.ref x) :: br) (st) M Q := by
  intro p e R s m args below meth c H locs cells slots Z ls hF hK hR hP hS hL hz hret
  obtain ⟨hd, rfl⟩ := hd
  exact lv_aload_n hF.1 hF.2.1 hd rfl (hL.get (i := 2) rfl) (k p e R s m args below meth c H locs cells slots Z ls hF hK hR hP hS hL hz hret)
theorem hg_istore2 {x : Int32} {b0 b1 br0 : Option Value} {br : List (Option Value)} (hd : hg_D Y pc pc' 1 (.istore_n 2)) (hb : hg_c1 b1 = true) (k : hg_WP l E d Y mc ms pc' (b0 :: b1 :: some (.int x) :: br) (st) M Q) : hg_WP l E d Y mc ms pc (b0 :: b1 :: br0 :: br) (.int x :: st) M Q := by
  intro p e R s m args below meth c H locs cells slots Z ls hF hK hR hP hS hL hz hret
  obtain ⟨hd, rfl⟩ := hd
  obtain ⟨h0, lv, h1, h2⟩ := id hL
  exact lv_istore_n hF.1 hF.2.1 hd rfl h1 (hL.lt (i := 2) rfl) rfl (fun ls' h3 => k p e R s m args below meth c H locs cells slots Z ls' hF hK hR hP hS (hg_lok.put h0 h2 (i := 2) (fun w _ hw => by have e : b1 = some w := Option.some.inj hw; subst e; exact beq_iff_eq.mp hb) h3) hz hret)
theorem hg_astore2 {x : Nat} {b0 b1 br0 : Option Value} {br : List (Option Value)} (hd : hg_D Y pc pc' 1 (.astore_n 2)) (hb : hg_c1 b1 = true) (k : hg_WP l E d Y mc ms pc' (b0 :: b1 :: some (.ref x) :: br) (st) M Q) : hg_WP l E d Y mc ms pc (b0 :: b1 :: br0 :: br) (.ref x :: st) M Q := by
  intro p e R s m args below meth c H locs cells slots Z ls hF hK hR hP hS hL hz hret
  obtain ⟨hd, rfl⟩ := hd
  obtain ⟨h0, lv, h1, h2⟩ := id hL
  exact lv_astore_n hF.1 hF.2.1 hd rfl h1 (hL.lt (i := 2) rfl) rfl (fun ls' h3 => k p e R s m args below meth c H locs cells slots Z ls' hF hK hR hP hS (hg_lok.put h0 h2 (i := 2) (fun w _ hw => by have e : b1 = some w := Option.some.inj hw; subst e; exact beq_iff_eq.mp hb) h3) hz hret)
theorem hg_astoreN2 {b0 b1 br0 : Option Value} {br : List (Option Value)} (hd : hg_D Y pc pc' 1 (.astore_n 2)) (hb : hg_c1 b1 = true) (k : hg_WP l E d Y mc ms pc' (b0 :: b1 :: some (.null) :: br) (st) M Q) : hg_WP l E d Y mc ms pc (b0 :: b1 :: br0 :: br) (.null :: st) M Q := by
  intro p e R s m args below meth c H locs cells slots Z ls hF hK hR hP hS hL hz hret
  obtain ⟨hd, rfl⟩ := hd
  obtain ⟨h0, lv, h1, h2⟩ := id hL
  exact lv_astore_nN hF.1 hF.2.1 hd rfl h1 (hL.lt (i := 2) rfl) rfl (fun ls' h3 => k p e R s m args below meth c H locs cells slots Z ls' hF hK hR hP hS (hg_lok.put h0 h2 (i := 2) (fun w _ hw => by have e : b1 = some w := Option.some.inj hw; subst e; exact beq_iff_eq.mp hb) h3) hz hret)
theorem hg_lstore2 {x : Int64} {b0 b1 br0 br1 : Option Value} {br : List (Option Value)} (hd : hg_D Y pc pc' 1 (.lstore_n 2)) (hb : hg_c1 b1 = true) (k : hg_WP l E d Y mc ms pc' (b0 :: b1 :: some (.long x) :: none :: br) (st) M Q) : hg_WP l E d Y mc ms pc (b0 :: b1 :: br0 :: br1 :: br) (.long x :: st) M Q := by
  intro p e R s m args below meth c H locs cells slots Z ls hF hK hR hP hS hL hz hret
  obtain ⟨hd, rfl⟩ := hd
  obtain ⟨h0, lv, h1, h2⟩ := id hL
  exact lv_lstore_n hF.1 hF.2.1 hd rfl h1 (hL.lt (i := 3) rfl) rfl (fun ls' h3 => k p e R s m args below meth c H locs cells slots Z ls' hF hK hR hP hS (hg_lok.putl h0 h2 (i := 2) (fun w _ hw => by have e : b1 = some w := Option.some.inj hw; subst e; exact beq_iff_eq.mp hb) h3) hz hret)
theorem hg_iinc2 {x v : Int32} {n : Int} {b0 b1 : Option Value} {br : List (Option Value)} (hd : hg_D Y pc pc' 3 (.iinc 2 n)) (hb : hg_c1 b1 = true) (hv : x + Int32.ofInt n = v) (k : hg_WP l E d Y mc ms pc' (b0 :: b1 :: some (.int v) :: br) (st) M Q) : hg_WP l E d Y mc ms pc (b0 :: b1 :: some (.int x) :: br) (st) M Q := by
  intro p e R s m args below meth c H locs cells slots Z ls hF hK hR hP hS hL hz hret
  obtain ⟨hd, rfl⟩ := hd
  obtain ⟨h0, lv, h1, h2⟩ := id hL
  obtain ⟨q, hq⟩ := List.getElem?_of_mem (h2 2 (.int x) rfl)
  exact lv_iinc hF.1 hF.2.1 hd h1 hq hv (hL.lt (i := 2) rfl) rfl (fun ls' h3 => k p e R s m args below meth c H locs cells slots Z ls' hF hK hR hP hS (hg_lok.put h0 h2 (i := 2) (fun w _ hw => by have e : b1 = some w := Option.some.inj hw; subst e; exact beq_iff_eq.mp hb) h3) hz hret)
theorem hg_iload3 {x : Int32} {b0 b1 b2 : Option Value} {br : List (Option Value)} (hd : hg_D Y pc pc' 1 (.iload_n 3)) (k : hg_WP l E d Y mc ms pc' (b0 :: b1 :: b2 :: some (.int x) :: br) (.int x :: st) M Q) : hg_WP l E d Y mc ms pc (b0 :: b1 :: b2 :: some (.int x) :: br) (st) M Q := by
  intro p e R s m args below meth c H locs cells slots Z ls hF hK hR hP hS hL hz hret
  obtain ⟨hd, rfl⟩ := hd
  exact lv_iload_n hF.1 hF.2.1 hd rfl (hL.get (i := 3) rfl) (k p e R s m args below meth c H locs cells slots Z ls hF hK hR hP hS hL hz hret)
theorem hg_lload3 {x : Int64} {b0 b1 b2 : Option Value} {br : List (Option Value)} (hd : hg_D Y pc pc' 1 (.lload_n 3)) (k : hg_WP l E d Y mc ms pc' (b0 :: b1 :: b2 :: some (.long x) :: br) (.long x :: st) M Q) : hg_WP l E d Y mc ms pc (b0 :: b1 :: b2 :: some (.long x) :: br) (st) M Q := by
  intro p e R s m args below meth c H locs cells slots Z ls hF hK hR hP hS hL hz hret
  obtain ⟨hd, rfl⟩ := hd
  exact lv_lload_n hF.1 hF.2.1 hd rfl (hL.get (i := 3) rfl) (k p e R s m args below meth c H locs cells slots Z ls hF hK hR hP hS hL hz hret)
theorem hg_aload3 {x : Nat} {b0 b1 b2 : Option Value} {br : List (Option Value)} (hd : hg_D Y pc pc' 1 (.aload_n 3)) (k : hg_WP l E d Y mc ms pc' (b0 :: b1 :: b2 :: some (.ref x) :: br) (.ref x :: st) M Q) : hg_WP l E d Y mc ms pc (b0 :: b1 :: b2 :: some (.ref x) :: br) (st) M Q := by
  intro p e R s m args below meth c H locs cells slots Z ls hF hK hR hP hS hL hz hret
  obtain ⟨hd, rfl⟩ := hd
  exact lv_aload_n hF.1 hF.2.1 hd rfl (hL.get (i := 3) rfl) (k p e R s m args below meth c H locs cells slots Z ls hF hK hR hP hS hL hz hret)
theorem hg_istore3 {x : Int32} {b0 b1 b2 br0 : Option Value} {br : List (Option Value)} (hd : hg_D Y pc pc' 1 (.istore_n 3)) (hb : hg_c1 b2 = true) (k : hg_WP l E d Y mc ms pc' (b0 :: b1 :: b2 :: some (.int x) :: br) (st) M Q) : hg_WP l E d Y mc ms pc (b0 :: b1 :: b2 :: br0 :: br) (.int x :: st) M Q := by
  intro p e R s m args below meth c H locs cells slots Z ls hF hK hR hP hS hL hz hret
  obtain ⟨hd, rfl⟩ := hd
  obtain ⟨h0, lv, h1, h2⟩ := id hL
  exact lv_istore_n hF.1 hF.2.1 hd rfl h1 (hL.lt (i := 3) rfl) rfl (fun ls' h3 => k p e R s m args below meth c H locs cells slots Z ls' hF hK hR hP hS (hg_lok.put h0 h2 (i := 3) (fun w _ hw => by have e : b2 = some w := Option.some.inj hw; subst e; exact beq_iff_eq.mp hb) h3) hz hret)
theorem hg_astore3 {x : Nat} {b0 b1 b2 br0 : Option Value} {br : List (Option Value)} (hd : hg_D Y pc pc' 1 (.astore_n 3)) (hb : hg_c1 b2 = true) (k : hg_WP l E d Y mc ms pc' (b0 :: b1 :: b2 :: some (.ref x) :: br) (st) M Q) : hg_WP l E d Y mc ms pc (b0 :: b1 :: b2 :: br0 :: br) (.ref x :: st) M Q := by
  intro p e R s m args below meth c H locs cells slots Z ls hF hK hR hP hS hL hz hret
  obtain ⟨hd, rfl⟩ := hd
  obtain ⟨h0, lv, h1, h2⟩ := id hL
  exact lv_astore_n hF.1 hF.2.1 hd rfl h1 (hL.lt (i := 3) rfl) rfl (fun ls' h3 => k p e R s m args below meth c H locs cells slots Z ls' hF hK hR hP hS (hg_lok.put h0 h2 (i := 3) (fun w _ hw => by have e : b2 = some w := Option.some.inj hw; subst e; exact beq_iff_eq.mp hb) h3) hz hret)
theorem hg_astoreN3 {b0 b1 b2 br0 : Option Value} {br : List (Option Value)} (hd : hg_D Y pc pc' 1 (.astore_n 3)) (hb : hg_c1 b2 = true) (k : hg_WP l E d Y mc ms pc' (b0 :: b1 :: b2 :: some (.null) :: br) (st) M Q) : hg_WP l E d Y mc ms pc (b0 :: b1 :: b2 :: br0 :: br) (.null :: st) M Q := by
  intro p e R s m args below meth c H locs cells slots Z ls hF hK hR hP hS hL hz hret
  obtain ⟨hd, rfl⟩ := hd
  obtain ⟨h0, lv, h1, h2⟩ := id hL
  exact lv_astore_nN hF.1 hF.2.1 hd rfl h1 (hL.lt (i := 3) rfl) rfl (fun ls' h3 => k p e R s m args below meth c H locs cells slots Z ls' hF hK hR hP hS (hg_lok.put h0 h2 (i := 3) (fun w _ hw => by have e : b2 = some w := Option.some.inj hw; subst e; exact beq_iff_eq.mp hb) h3) hz hret)
theorem hg_lstore3 {x : Int64} {b0 b1 b2 br0 br1 : Option Value} {br : List (Option Value)} (hd : hg_D Y pc pc' 1 (.lstore_n 3)) (hb : hg_c1 b2 = true) (k : hg_WP l E d Y mc ms pc' (b0 :: b1 :: b2 :: some (.long x) :: none :: br) (st) M Q) : hg_WP l E d Y mc ms pc (b0 :: b1 :: b2 :: br0 :: br1 :: br) (.long x :: st) M Q := by
  intro p e R s m args below meth c H locs cells slots Z ls hF hK hR hP hS hL hz hret
  obtain ⟨hd, rfl⟩ := hd
  obtain ⟨h0, lv, h1, h2⟩ := id hL
  exact lv_lstore_n hF.1 hF.2.1 hd rfl h1 (hL.lt (i := 4) rfl) rfl (fun ls' h3 => k p e R s m args below meth c H locs cells slots Z ls' hF hK hR hP hS (hg_lok.putl h0 h2 (i := 3) (fun w _ hw => by have e : b2 = some w := Option.some.inj hw; subst e; exact beq_iff_eq.mp hb) h3) hz hret)
theorem hg_iinc3 {x v : Int32} {n : Int} {b0 b1 b2 : Option Value} {br : List (Option Value)} (hd : hg_D Y pc pc' 3 (.iinc 3 n)) (hb : hg_c1 b2 = true) (hv : x + Int32.ofInt n = v) (k : hg_WP l E d Y mc ms pc' (b0 :: b1 :: b2 :: some (.int v) :: br) (st) M Q) : hg_WP l E d Y mc ms pc (b0 :: b1 :: b2 :: some (.int x) :: br) (st) M Q := by
  intro p e R s m args below meth c H locs cells slots Z ls hF hK hR hP hS hL hz hret
  obtain ⟨hd, rfl⟩ := hd
  obtain ⟨h0, lv, h1, h2⟩ := id hL
  obtain ⟨q, hq⟩ := List.getElem?_of_mem (h2 3 (.int x) rfl)
  exact lv_iinc hF.1 hF.2.1 hd h1 hq hv (hL.lt (i := 3) rfl) rfl (fun ls' h3 => k p e R s m args below meth c H locs cells slots Z ls' hF hK hR hP hS (hg_lok.put h0 h2 (i := 3) (fun w _ hw => by have e : b2 = some w := Option.some.inj hw; subst e; exact beq_iff_eq.mp hb) h3) hz hret)
theorem hg_iload4 {x : Int32} {b0 b1 b2 b3 : Option Value} {br : List (Option Value)} (hd : hg_D Y pc pc' 2 (.iload 4)) (k : hg_WP l E d Y mc ms pc' (b0 :: b1 :: b2 :: b3 :: some (.int x) :: br) (.int x :: st) M Q) : hg_WP l E d Y mc ms pc (b0 :: b1 :: b2 :: b3 :: some (.int x) :: br) (st) M Q := by
  intro p e R s m args below meth c H locs cells slots Z ls hF hK hR hP hS hL hz hret
  obtain ⟨hd, rfl⟩ := hd
  exact lv_iload hF.1 hF.2.1 hd (hL.get (i := 4) rfl) (k p e R s m args below meth c H locs cells slots Z ls hF hK hR hP hS hL hz hret)
theorem hg_lload4 {x : Int64} {b0 b1 b2 b3 : Option Value} {br : List (Option Value)} (hd : hg_D Y pc pc' 2 (.lload 4)) (k : hg_WP l E d Y mc ms pc' (b0 :: b1 :: b2 :: b3 :: some (.long x) :: br) (.long x :: st) M Q) : hg_WP l E d Y mc ms pc (b0 :: b1 :: b2 :: b3 :: some (.long x) :: br) (st) M Q := by
  intro p e R s m args below meth c H locs cells slots Z ls hF hK hR hP hS hL hz hret
  obtain ⟨hd, rfl⟩ := hd
  exact lv_lload hF.1 hF.2.1 hd (hL.get (i := 4) rfl) (k p e R s m args below meth c H locs cells slots Z ls hF hK hR hP hS hL hz hret)
theorem hg_aload4 {x : Nat} {b0 b1 b2 b3 : Option Value} {br : List (Option Value)} (hd : hg_D Y pc pc' 2 (.aload 4)) (k : hg_WP l E d Y mc ms pc' (b0 :: b1 :: b2 :: b3 :: some (.ref x) :: br) (.ref x :: st) M Q) : hg_WP l E d Y mc ms pc (b0 :: b1 :: b2 :: b3 :: some (.ref x) :: br) (st) M Q := by
  intro p e R s m args below meth c H locs cells slots Z ls hF hK hR hP hS hL hz hret
  obtain ⟨hd, rfl⟩ := hd
  exact lv_aload hF.1 hF.2.1 hd (hL.get (i := 4) rfl) (k p e R s m args below meth c H locs cells slots Z ls hF hK hR hP hS hL hz hret)
theorem hg_istore4 {x : Int32} {b0 b1 b2 b3 br0 : Option Value} {br : List (Option Value)} (hd : hg_D Y pc pc' 2 (.istore 4)) (hb : hg_c1 b3 = true) (k : hg_WP l E d Y mc ms pc' (b0 :: b1 :: b2 :: b3 :: some (.int x) :: br) (st) M Q) : hg_WP l E d Y mc ms pc (b0 :: b1 :: b2 :: b3 :: br0 :: br) (.int x :: st) M Q := by
  intro p e R s m args below meth c H locs cells slots Z ls hF hK hR hP hS hL hz hret
  obtain ⟨hd, rfl⟩ := hd
  obtain ⟨h0, lv, h1, h2⟩ := id hL
  exact lv_istore hF.1 hF.2.1 hd h1 (hL.lt (i := 4) rfl) rfl (fun ls' h3 => k p e R s m args below meth c H locs cells slots Z ls' hF hK hR hP hS (hg_lok.put h0 h2 (i := 4) (fun w _ hw => by have e : b3 = some w := Option.some.inj hw; subst e; exact beq_iff_eq.mp hb) h3) hz hret)
theorem hg_astore4 {x : Nat} {b0 b1 b2 b3 br0 : Option Value} {br : List (Option Value)} (hd : hg_D Y pc pc' 2 (.astore 4)) (hb : hg_c1 b3 = true) (k : hg_WP l E d Y mc ms pc' (b0 :: b1 :: b2 :: b3 :: some (.ref x) :: br) (st) M Q) : hg_WP l E d Y mc ms pc (b0 :: b1 :: b2 :: b3 :: br0 :: br) (.ref x :: st) M Q := by
  intro p e R s m args below meth c H locs cells slots Z ls hF hK hR hP hS hL hz hret
  obtain ⟨hd, rfl⟩ := hd
  obtain ⟨h0, lv, h1, h2⟩ := id hL
  exact lv_astore hF.1 hF.2.1 hd h1 (hL.lt (i := 4) rfl) rfl (fun ls' h3 => k p e R s m args below meth c H locs cells slots Z ls' hF hK hR hP hS (hg_lok.put h0 h2 (i := 4) (fun w _ hw => by have e : b3 = some w := Option.some.inj hw; subst e; exact beq_iff_eq.mp hb) h3) hz hret)
theorem hg_astoreN4 {b0 b1 b2 b3 br0 : Option Value} {br : List (Option Value)} (hd : hg_D Y pc pc' 2 (.astore 4)) (hb : hg_c1 b3 = true) (k : hg_WP l E d Y mc ms pc' (b0 :: b1 :: b2 :: b3 :: some (.null) :: br) (st) M Q) : hg_WP l E d Y mc ms pc (b0 :: b1 :: b2 :: b3 :: br0 :: br) (.null :: st) M Q := by
  intro p e R s m args below meth c H locs cells slots Z ls hF hK hR hP hS hL hz hret
  obtain ⟨hd, rfl⟩ := hd
  obtain ⟨h0, lv, h1, h2⟩ := id hL
  exact lv_astoreN hF.1 hF.2.1 hd h1 (hL.lt (i := 4) rfl) rfl (fun ls' h3 => k p e R s m args below meth c H locs cells slots Z ls' hF hK hR hP hS (hg_lok.put h0 h2 (i := 4) (fun w _ hw => by have e : b3 = some w := Option.some.inj hw; subst e; exact beq_iff_eq.mp hb) h3) hz hret)
theorem hg_lstore4 {x : Int64} {b0 b1 b2 b3 br0 br1 : Option Value} {br : List (Option Value)} (hd : hg_D Y pc pc' 2 (.lstore 4)) (hb : hg_c1 b3 = true) (k : hg_WP l E d Y mc ms pc' (b0 :: b1 :: b2 :: b3 :: some (.long x) :: none :: br) (st) M Q) : hg_WP l E d Y mc ms pc (b0 :: b1 :: b2 :: b3 :: br0 :: br1 :: br) (.long x :: st) M Q := by
  intro p e R s m args below meth c H locs cells slots Z ls hF hK hR hP hS hL hz hret
  obtain ⟨hd, rfl⟩ := hd
  obtain ⟨h0, lv, h1, h2⟩ := id hL
  exact lv_lstore hF.1 hF.2.1 hd h1 (hL.lt (i := 5) rfl) rfl (fun ls' h3 => k p e R s m args below meth c H locs cells slots Z ls' hF hK hR hP hS (hg_lok.putl h0 h2 (i := 4) (fun w _ hw => by have e : b3 = some w := Option.some.inj hw; subst e; exact beq_iff_eq.mp hb) h3) hz hret)
theorem hg_iinc4 {x v : Int32} {n : Int} {b0 b1 b2 b3 : Option Value} {br : List (Option Value)} (hd : hg_D Y pc pc' 3 (.iinc 4 n)) (hb : hg_c1 b3 = true) (hv : x + Int32.ofInt n = v) (k : hg_WP l E d Y mc ms pc' (b0 :: b1 :: b2 :: b3 :: some (.int v) :: br) (st) M Q) : hg_WP l E d Y mc ms pc (b0 :: b1 :: b2 :: b3 :: some (.int x) :: br) (st) M Q := by
  intro p e R s m args below meth c H locs cells slots Z ls hF hK hR hP hS hL hz hret
  obtain ⟨hd, rfl⟩ := hd
  obtain ⟨h0, lv, h1, h2⟩ := id hL
  obtain ⟨q, hq⟩ := List.getElem?_of_mem (h2 4 (.int x) rfl)
  exact lv_iinc hF.1 hF.2.1 hd h1 hq hv (hL.lt (i := 4) rfl) rfl (fun ls' h3 => k p e R s m args below meth c H locs cells slots Z ls' hF hK hR hP hS (hg_lok.put h0 h2 (i := 4) (fun w _ hw => by have e : b3 = some w := Option.some.inj hw; subst e; exact beq_iff_eq.mp hb) h3) hz hret)
theorem hg_iload5 {x : Int32} {b0 b1 b2 b3 b4 : Option Value} {br : List (Option Value)} (hd : hg_D Y pc pc' 2 (.iload 5)) (k : hg_WP l E d Y mc ms pc' (b0 :: b1 :: b2 :: b3 :: b4 :: some (.int x) :: br) (.int x :: st) M Q) : hg_WP l E d Y mc ms pc (b0 :: b1 :: b2 :: b3 :: b4 :: some (.int x) :: br) (st) M Q := by
  intro p e R s m args below meth c H locs cells slots Z ls hF hK hR hP hS hL hz hret
  obtain ⟨hd, rfl⟩ := hd
  exact lv_iload hF.1 hF.2.1 hd (hL.get (i := 5) rfl) (k p e R s m args below meth c H locs cells slots Z ls hF hK hR hP hS hL hz hret)
theorem hg_lload5 {x : Int64} {b0 b1 b2 b3 b4 : Option Value} {br : List (Option Value)} (hd : hg_D Y pc pc' 2 (.lload 5)) (k : hg_WP l E d Y mc ms pc' (b0 :: b1 :: b2 :: b3 :: b4 :: some (.long x) :: br) (.long x :: st) M Q) : hg_WP l E d Y mc ms pc (b0 :: b1 :: b2 :: b3 :: b4 :: some (.long x) :: br) (st) M Q := by
  intro p e R s m args below meth c H locs cells slots Z ls hF hK hR hP hS hL hz hret
  obtain ⟨hd, rfl⟩ := hd
  exact lv_lload hF.1 hF.2.1 hd (hL.get (i := 5) rfl) (k p e R s m args below meth c H locs cells slots Z ls hF hK hR hP hS hL hz hret)
theorem hg_aload5 {x : Nat} {b0 b1 b2 b3 b4 : Option Value} {br : List (Option Value)} (hd : hg_D Y pc pc' 2 (.aload 5)) (k : hg_WP l E d Y mc ms pc' (b0 :: b1 :: b2 :: b3 :: b4 :: some (.ref x) :: br) (.ref x :: st) M Q) : hg_WP l E d Y mc ms pc (b0 :: b1 :: b2 :: b3 :: b4 :: some (.ref x) :: br) (st) M Q := by
  intro p e R s m args below meth c H locs cells slots Z ls hF hK hR hP hS hL hz hret
  obtain ⟨hd, rfl⟩ := hd
  exact lv_aload hF.1 hF.2.1 hd (hL.get (i := 5) rfl) (k p e R s m args below meth c H locs cells slots Z ls hF hK hR hP hS hL hz hret)
theorem hg_istore5 {x : Int32} {b0 b1 b2 b3 b4 br0 : Option Value} {br : List (Option Value)} (hd : hg_D Y pc pc' 2 (.istore 5)) (hb : hg_c1 b4 = true) (k : hg_WP l E d Y mc ms pc' (b0 :: b1 :: b2 :: b3 :: b4 :: some (.int x) :: br) (st) M Q) : hg_WP l E d Y mc ms pc (b0 :: b1 :: b2 :: b3 :: b4 :: br0 :: br) (.int x :: st) M Q := by
  intro p e R s m args below meth c H locs cells slots Z ls hF hK hR hP hS hL hz hret
  obtain ⟨hd, rfl⟩ := hd
  obtain ⟨h0, lv, h1, h2⟩ := id hL
  exact lv_istore hF.1 hF.2.1 hd h1 (hL.lt (i := 5) rfl) rfl (fun ls' h3 => k p e R s m args below meth c H locs cells slots Z ls' hF hK hR hP hS (hg_lok.put h0 h2 (i := 5) (fun w _ hw => by have e : b4 = some w := Option.some.inj hw; subst e; exact beq_iff_eq.mp hb) h3) hz hret)
theorem hg_astore5 {x : Nat} {b0 b1 b2 b3 b4 br0 : Option Value} {br : List (Option Value)} (hd : hg_D Y pc pc' 2 (.astore 5)) (hb : hg_c1 b4 = true) (k : hg_WP l E d Y mc ms pc' (b0 :: b1 :: b2 :: b3 :: b4 :: some (.ref x) :: br) (st) M Q) : hg_WP l E d Y mc ms pc (b0 :: b1 :: b2 :: b3 :: b4 :: br0 :: br) (.ref x :: st) M Q := by
  intro p e R s m args below meth c H locs cells slots Z ls hF hK hR hP hS hL hz hret
  obtain ⟨hd, rfl⟩ := hd
  obtain ⟨h0, lv, h1, h2⟩ := id hL
  exact lv_astore hF.1 hF.2.1 hd h1 (hL.lt (i := 5) rfl) rfl (fun ls' h3 => k p e R s m args below meth c H locs cells slots Z ls' hF hK hR hP hS (hg_lok.put h0 h2 (i := 5) (fun w _ hw => by have e : b4 = some w := Option.some.inj hw; subst e; exact beq_iff_eq.mp hb) h3) hz hret)
theorem hg_astoreN5 {b0 b1 b2 b3 b4 br0 : Option Value} {br : List (Option Value)} (hd : hg_D Y pc pc' 2 (.astore 5)) (hb : hg_c1 b4 = true) (k : hg_WP l E d Y mc ms pc' (b0 :: b1 :: b2 :: b3 :: b4 :: some (.null) :: br) (st) M Q) : hg_WP l E d Y mc ms pc (b0 :: b1 :: b2 :: b3 :: b4 :: br0 :: br) (.null :: st) M Q := by
  intro p e R s m args below meth c H locs cells slots Z ls hF hK hR hP hS hL hz hret
  obtain ⟨hd, rfl⟩ := hd
  obtain ⟨h0, lv, h1, h2⟩ := id hL
  exact lv_astoreN hF.1 hF.2.1 hd h1 (hL.lt (i := 5) rfl) rfl (fun ls' h3 => k p e R s m args below meth c H locs cells slots Z ls' hF hK hR hP hS (hg_lok.put h0 h2 (i := 5) (fun w _ hw => by have e : b4 = some w := Option.some.inj hw; subst e; exact beq_iff_eq.mp hb) h3) hz hret)
theorem hg_lstore5 {x : Int64} {b0 b1 b2 b3 b4 br0 br1 : Option Value} {br : List (Option Value)} (hd : hg_D Y pc pc' 2 (.lstore 5)) (hb : hg_c1 b4 = true) (k : hg_WP l E d Y mc ms pc' (b0 :: b1 :: b2 :: b3 :: b4 :: some (.long x) :: none :: br) (st) M Q) : hg_WP l E d Y mc ms pc (b0 :: b1 :: b2 :: b3 :: b4 :: br0 :: br1 :: br) (.long x :: st) M Q := by
  intro p e R s m args below meth c H locs cells slots Z ls hF hK hR hP hS hL hz hret
  obtain ⟨hd, rfl⟩ := hd
  obtain ⟨h0, lv, h1, h2⟩ := id hL
  exact lv_lstore hF.1 hF.2.1 hd h1 (hL.lt (i := 6) rfl) rfl (fun ls' h3 => k p e R s m args below meth c H locs cells slots Z ls' hF hK hR hP hS (hg_lok.putl h0 h2 (i := 5) (fun w _ hw => by have e : b4 = some w := Option.some.inj hw; subst e; exact beq_iff_eq.mp hb) h3) hz hret)
theorem hg_iinc5 {x v : Int32} {n : Int} {b0 b1 b2 b3 b4 : Option Value} {br : List (Option Value)} (hd : hg_D Y pc pc' 3 (.iinc 5 n)) (hb : hg_c1 b4 = true) (hv : x + Int32.ofInt n = v) (k : hg_WP l E d Y mc ms pc' (b0 :: b1 :: b2 :: b3 :: b4 :: some (.int v) :: br) (st) M Q) : hg_WP l E d Y mc ms pc (b0 :: b1 :: b2 :: b3 :: b4 :: some (.int x) :: br) (st) M Q := by
  intro p e R s m args below meth c H locs cells slots Z ls hF hK hR hP hS hL hz hret
  obtain ⟨hd, rfl⟩ := hd
  obtain ⟨h0, lv, h1, h2⟩ := id hL
  obtain ⟨q, hq⟩ := List.getElem?_of_mem (h2 5 (.int x) rfl)
  exact lv_iinc hF.1 hF.2.1 hd h1 hq hv (hL.lt (i := 5) rfl) rfl (fun ls' h3 => k p e R s m args below meth c H locs cells slots Z ls' hF hK hR hP hS (hg_lok.put h0 h2 (i := 5) (fun w _ hw => by have e : b4 = some w := Option.some.inj hw; subst e; exact beq_iff_eq.mp hb) h3) hz hret)
theorem hg_iload6 {x : Int32} {b0 b1 b2 b3 b4 b5 : Option Value} {br : List (Option Value)} (hd : hg_D Y pc pc' 2 (.iload 6)) (k : hg_WP l E d Y mc ms pc' (b0 :: b1 :: b2 :: b3 :: b4 :: b5 :: some (.int x) :: br) (.int x :: st) M Q) : hg_WP l E d Y mc ms pc (b0 :: b1 :: b2 :: b3 :: b4 :: b5 :: some (.int x) :: br) (st) M Q := by
  intro p e R s m args below meth c H locs cells slots Z ls hF hK hR hP hS hL hz hret
  obtain ⟨hd, rfl⟩ := hd
  exact lv_iload hF.1 hF.2.1 hd (hL.get (i := 6) rfl) (k p e R s m args below meth c H locs cells slots Z ls hF hK hR hP hS hL hz hret)
theorem hg_lload6 {x : Int64} {b0 b1 b2 b3 b4 b5 : Option Value} {br : List (Option Value)} (hd : hg_D Y pc pc' 2 (.lload 6)) (k : hg_WP l E d Y mc ms pc' (b0 :: b1 :: b2 :: b3 :: b4 :: b5 :: some (.long x) :: br) (.long x :: st) M Q) : hg_WP l E d Y mc ms pc (b0 :: b1 :: b2 :: b3 :: b4 :: b5 :: some (.long x) :: br) (st) M Q := by
  intro p e R s m args below meth c H locs cells slots Z ls hF hK hR hP hS hL hz hret
  obtain ⟨hd, rfl⟩ := hd
  exact lv_lload hF.1 hF.2.1 hd (hL.get (i := 6) rfl) (k p e R s m args below meth c H locs cells slots Z ls hF hK hR hP hS hL hz hret)
theorem hg_aload6 {x : Nat} {b0 b1 b2 b3 b4 b5 : Option Value} {br : List (Option Value)} (hd : hg_D Y pc pc' 2 (.aload 6)) (k : hg_WP l E d Y mc ms pc' (b0 :: b1 :: b2 :: b3 :: b4 :: b5 :: some (.ref x) :: br) (.ref x :: st) M Q) : hg_WP l E d Y mc ms pc (b0 :: b1 :: b2 :: b3 :: b4 :: b5 :: some (.ref x) :: br) (st) M Q := by
  intro p e R s m args below meth c H locs cells slots Z ls hF hK hR hP hS hL hz hret
  obtain ⟨hd, rfl⟩ := hd
  exact lv_aload hF.1 hF.2.1 hd (hL.get (i := 6) rfl) (k p e R s m args below meth c H locs cells slots Z ls hF hK hR hP hS hL hz hret)
theorem hg_istore6 {x : Int32} {b0 b1 b2 b3 b4 b5 br0 : Option Value} {br : List (Option Value)} (hd : hg_D Y pc pc' 2 (.istore 6)) (hb : hg_c1 b5 = true) (k : hg_WP l E d Y mc ms pc' (b0 :: b1 :: b2 :: b3 :: b4 :: b5 :: some (.int x) :: br) (st) M Q) : hg_WP l E d Y mc ms pc (b0 :: b1 :: b2 :: b3 :: b4 :: b5 :: br0 :: br) (.int x :: st) M Q := by
  intro p e R s m args below meth c H locs cells slots Z ls hF hK hR hP hS hL hz hret
  obtain ⟨hd, rfl⟩ := hd
  obtain ⟨h0, lv, h1, h2⟩ := id hL
  exact lv_istore hF.1 hF.2.1 hd h1 (hL.lt (i := 6) rfl) rfl (fun ls' h3 => k p e R s m args below meth c H locs cells slots Z ls' hF hK hR hP hS (hg_lok.put h0 h2 (i := 6) (fun w _ hw => by have e : b5 = some w := Option.some.inj hw; subst e; exact beq_iff_eq.mp hb) h3) hz hret)
theorem hg_astore6 {x : Nat} {b0 b1 b2 b3 b4 b5 br0 : Option Value} {br : List (Option Value)} (hd : hg_D Y pc pc' 2 (.astore 6)) (hb : hg_c1 b5 = true) (k : hg_WP l E d Y mc ms pc' (b0 :: b1 :: b2 :: b3 :: b4 :: b5 :: some (.ref x) :: br) (st) M Q) : hg_WP l E d Y mc ms pc (b0 :: b1 :: b2 :: b3 :: b4 :: b5 :: br0 :: br) (.ref x :: st) M Q := by
  intro p e R s m args below meth c H locs cells slots Z ls hF hK hR hP hS hL hz hret
  obtain ⟨hd, rfl⟩ := hd
  obtain ⟨h0, lv, h1, h2⟩ := id hL
  exact lv_astore hF.1 hF.2.1 hd h1 (hL.lt (i := 6) rfl) rfl (fun ls' h3 => k p e R s m args below meth c H locs cells slots Z ls' hF hK hR hP hS (hg_lok.put h0 h2 (i := 6) (fun w _ hw => by have e : b5 = some w := Option.some.inj hw; subst e; exact beq_iff_eq.mp hb) h3) hz hret)
theorem hg_astoreN6 {b0 b1 b2 b3 b4 b5 br0 : Option Value} {br : List (Option Value)} (hd : hg_D Y pc pc' 2 (.astore 6)) (hb : hg_c1 b5 = true) (k : hg_WP l E d Y mc ms pc' (b0 :: b1 :: b2 :: b3 :: b4 :: b5 :: some (.null) :: br) (st) M Q) : hg_WP l E d Y mc ms pc (b0 :: b1 :: b2 :: b3 :: b4 :: b5 :: br0 :: br) (.null :: st) M Q := by
  intro p e R s m args below meth c H locs cells slots Z ls hF hK hR hP hS hL hz hret
  obtain ⟨hd, rfl⟩ := hd
  obtain ⟨h0, lv, h1, h2⟩ := id hL
  exact lv_astoreN hF.1 hF.2.1 hd h1 (hL.lt (i := 6) rfl) rfl (fun ls' h3 => k p e R s m args below meth c H locs cells slots Z ls' hF hK hR hP hS (hg_lok.put h0 h2 (i := 6) (fun w _ hw => by have e : b5 = some w := Option.some.inj hw; subst e; exact beq_iff_eq.mp hb) h3) hz hret)
theorem hg_lstore6 {x : Int64} {b0 b1 b2 b3 b4 b5 br0 br1 : Option Value} {br : List (Option Value)} (hd : hg_D Y pc pc' 2 (.lstore 6)) (hb : hg_c1 b5 = true) (k : hg_WP l E d Y mc ms pc' (b0 :: b1 :: b2 :: b3 :: b4 :: b5 :: some (.long x) :: none :: br) (st) M Q) : hg_WP l E d Y mc ms pc (b0 :: b1 :: b2 :: b3 :: b4 :: b5 :: br0 :: br1 :: br) (.long x :: st) M Q := by
  intro p e R s m args below meth c H locs cells slots Z ls hF hK hR hP hS hL hz hret
  obtain ⟨hd, rfl⟩ := hd
  obtain ⟨h0, lv, h1, h2⟩ := id hL
  exact lv_lstore hF.1 hF.2.1 hd h1 (hL.lt (i := 7) rfl) rfl (fun ls' h3 => k p e R s m args below meth c H locs cells slots Z ls' hF hK hR hP hS (hg_lok.putl h0 h2 (i := 6) (fun w _ hw => by have e : b5 = some w := Option.some.inj hw; subst e; exact beq_iff_eq.mp hb) h3) hz hret)
theorem hg_iinc6 {x v : Int32} {n : Int} {b0 b1 b2 b3 b4 b5 : Option Value} {br : List (Option Value)} (hd : hg_D Y pc pc' 3 (.iinc 6 n)) (hb : hg_c1 b5 = true) (hv : x + Int32.ofInt n = v) (k : hg_WP l E d Y mc ms pc' (b0 :: b1 :: b2 :: b3 :: b4 :: b5 :: some (.int v) :: br) (st) M Q) : hg_WP l E d Y mc ms pc (b0 :: b1 :: b2 :: b3 :: b4 :: b5 :: some (.int x) :: br) (st) M Q := by
  intro p e R s m args below meth c H locs cells slots Z ls hF hK hR hP hS hL hz hret
  obtain ⟨hd, rfl⟩ := hd
  obtain ⟨h0, lv, h1, h2⟩ := id hL
  obtain ⟨q, hq⟩ := List.getElem?_of_mem (h2 6 (.int x) rfl)
  exact lv_iinc hF.1 hF.2.1 hd h1 hq hv (hL.lt (i := 6) rfl) rfl (fun ls' h3 => k p e R s m args below meth c H locs cells slots Z ls' hF hK hR hP hS (hg_lok.put h0 h2 (i := 6) (fun w _ hw => by have e : b5 = some w := Option.some.inj hw; subst e; exact beq_iff_eq.mp hb) h3) hz hret)
theorem hg_iload7 {x : Int32} {b0 b1 b2 b3 b4 b5 b6 : Option Value} {br : List (Option Value)} (hd : hg_D Y pc pc' 2 (.iload 7)) (k : hg_WP l E d Y mc ms pc' (b0 :: b1 :: b2 :: b3 :: b4 :: b5 :: b6 :: some (.int x) :: br) (.int x :: st) M Q) : hg_WP l E d Y mc ms pc (b0 :: b1 :: b2 :: b3 :: b4 :: b5 :: b6 :: some (.int x) :: br) (st) M Q := by
  intro p e R s m args below meth c H locs cells slots Z ls hF hK hR hP hS hL hz hret
  obtain ⟨hd, rfl⟩ := hd
  exact lv_iload hF.1 hF.2.1 hd (hL.get (i := 7) rfl) (k p e R s m args below meth c H locs cells slots Z ls hF hK hR hP hS hL hz hret)
theorem hg_lload7 {x : Int64} {b0 b1 b2 b3 b4 b5 b6 : Option Value} {br : List (Option Value)} (hd : hg_D Y pc pc' 2 (.lload 7)) (k : hg_WP l E d Y mc ms pc' (b0 :: b1 :: b2 :: b3 :: b4 :: b5 :: b6 :: some (.long x) :: br) (.long x :: st) M Q) : hg_WP l E d Y mc ms pc (b0 :: b1 :: b2 :: b3 :: b4 :: b5 :: b6 :: some (.long x) :: br) (st) M Q := by
  intro p e R s m args below meth c H locs cells slots Z ls hF hK hR hP hS hL hz hret
  obtain ⟨hd, rfl⟩ := hd
  exact lv_lload hF.1 hF.2.1 hd (hL.get (i := 7) rfl) (k p e R s m args below meth c H locs cells slots Z ls hF hK hR hP hS hL hz hret)
theorem hg_aload7 {x : Nat} {b0 b1 b2 b3 b4 b5 b6 : Option Value} {br : List (Option Value)} (hd : hg_D Y pc pc' 2 (.aload 7)) (k : hg_WP l E d Y mc ms pc' (b0 :: b1 :: b2 :: b3 :: b4 :: b5 :: b6 :: some (.ref x) :: br) (.ref x :: st) M Q) : hg_WP l E d Y mc ms pc (b0 :: b1 :: b2 :: b3 :: b4 :: b5 :: b6 :: some (.ref x) :: br) (st) M Q := by
  intro p e R s m args below meth c H locs cells slots Z ls hF hK hR hP hS hL hz hret
  obtain ⟨hd, rfl⟩ := hd
  exact lv_aload hF.1 hF.2.1 hd (hL.get (i := 7) rfl) (k p e R s m args below meth c H locs cells slots Z ls hF hK hR hP hS hL hz hret)
theorem hg_istore7 {x : Int32} {b0 b1 b2 b3 b4 b5 b6 br0 : Option Value} {br : List (Option Value)} (hd : hg_D Y pc pc' 2 (.istore 7)) (hb : hg_c1 b6 = true) (k : hg_WP l E d Y mc ms pc' (b0 :: b1 :: b2 :: b3 :: b4 :: b5 :: b6 :: some (.int x) :: br) (st) M Q) : hg_WP l E d Y mc ms pc (b0 :: b1 :: b2 :: b3 :: b4 :: b5 :: b6 :: br0 :: br) (.int x :: st) M Q := by
  intro p e R s m args below meth c H locs cells slots Z ls hF hK hR hP hS hL hz hret
  obtain ⟨hd, rfl⟩ := hd
  obtain ⟨h0, lv, h1, h2⟩ := id hL
  exact lv_istore hF.1 hF.2.1 hd h1 (hL.lt (i := 7) rfl) rfl (fun ls' h3 => k p e R s m args below meth c H locs cells slots Z ls' hF hK hR hP hS (hg_lok.put h0 h2 (i := 7) (fun w _ hw => by have e : b6 = some w := Option.some.inj hw; subst e; exact beq_iff_eq.mp hb) h3) hz hret)
theorem hg_astore7 {x : Nat} {b0 b1 b2 b3 b4 b5 b6 br0 : Option Value} {br : List (Option Value)} (hd : hg_D Y pc pc' 2 (.astore 7)) (hb : hg_c1 b6 = true) (k : hg_WP l E d Y mc ms pc' (b0 :: b1 :: b2 :: b3 :: b4 :: b5 :: b6 :: some (.ref x) :: br) (st) M Q) : hg_WP l E d Y mc ms pc (b0 :: b1 :: b2 :: b3 :: b4 :: b5 :: b6 :: br0 :: br) (.ref x :: st) M Q := by
  intro p e R s m args below meth c H locs cells slots Z ls hF hK hR hP hS hL hz hret
  obtain ⟨hd, rfl⟩ := hd
  obtain ⟨h0, lv, h1, h2⟩ := id hL
  exact lv_astore hF.1 hF.2.1 hd h1 (hL.lt (i := 7) rfl) rfl (fun ls' h3 => k p e R s m args below meth c H locs cells slots Z ls' hF hK hR hP hS (hg_lok.put h0 h2 (i := 7) (fun w _ hw => by have e : b6 = some w := Option.some.inj hw; subst e; exact beq_iff_eq.mp hb) h3) hz hret)
theorem hg_astoreN7 {b0 b1 b2 b3 b4 b5 b6 br0 : Option Value} {br : List (Option Value)} (hd : hg_D Y pc pc' 2 (.astore 7)) (hb : hg_c1 b6 = true) (k : hg_WP l E d Y mc ms pc' (b0 :: b1 :: b2 :: b3 :: b4 :: b5 :: b6 :: some (.null) :: br) (st) M Q) : hg_WP l E d Y mc ms pc (b0 :: b1 :: b2 :: b3 :: b4 :: b5 :: b6 :: br0 :: br) (.null :: st) M Q := by
  intro p e R s m args below meth c H locs cells slots Z ls hF hK hR hP hS hL hz hret
  obtain ⟨hd, rfl⟩ := hd
  obtain ⟨h0, lv, h1, h2⟩ := id hL
  exact lv_astoreN hF.1 hF.2.1 hd h1 (hL.lt (i := 7) rfl) rfl (fun ls' h3 => k p e R s m args below meth c H locs cells slots Z ls' hF hK hR hP hS (hg_lok.put h0 h2 (i := 7) (fun w _ hw => by have e : b6 = some w := Option.some.inj hw; subst e; exact beq_iff_eq.mp hb) h3) hz hret)
theorem hg_lstore7 {x : Int64} {b0 b1 b2 b3 b4 b5 b6 br0 br1 : Option Value} {br : List (Option Value)} (hd : hg_D Y pc pc' 2 (.lstore 7)) (hb : hg_c1 b6 = true) (k : hg_WP l E d Y mc ms pc' (b0 :: b1 :: b2 :: b3 :: b4 :: b5 :: b6 :: some (.long x) :: none :: br) (st) M Q) : hg_WP l E d Y mc ms pc (b0 :: b1 :: b2 :: b3 :: b4 :: b5 :: b6 :: br0 :: br1 :: br) (.long x :: st) M Q := by
  intro p e R s m args below meth c H locs cells slots Z ls hF hK hR hP hS hL hz hret
  obtain ⟨hd, rfl⟩ := hd
  obtain ⟨h0, lv, h1, h2⟩ := id hL
  exact lv_lstore hF.1 hF.2.1 hd h1 (hL.lt (i := 8) rfl) rfl (fun ls' h3 => k p e R s m args below meth c H locs cells slots Z ls' hF hK hR hP hS (hg_lok.putl h0 h2 (i := 7) (fun w _ hw => by have e : b6 = some w := Option.some.inj hw; subst e; exact beq_iff_eq.mp hb) h3) hz hret)
theorem hg_iinc7 {x v : Int32} {n : Int} {b0 b1 b2 b3 b4 b5 b6 : Option Value} {br : List (Option Value)} (hd : hg_D Y pc pc' 3 (.iinc 7 n)) (hb : hg_c1 b6 = true) (hv : x + Int32.ofInt n = v) (k : hg_WP l E d Y mc ms pc' (b0 :: b1 :: b2 :: b3 :: b4 :: b5 :: b6 :: some (.int v) :: br) (st) M Q) : hg_WP l E d Y mc ms pc (b0 :: b1 :: b2 :: b3 :: b4 :: b5 :: b6 :: some (.int x) :: br) (st) M Q := by
  intro p e R s m args below meth c H locs cells slots Z ls hF hK hR hP hS hL hz hret
  obtain ⟨hd, rfl⟩ := hd
  obtain ⟨h0, lv, h1, h2⟩ := id hL
  obtain ⟨q, hq⟩ := List.getElem?_of_mem (h2 7 (.int x) rfl)
  exact lv_iinc hF.1 hF.2.1 hd h1 hq hv (hL.lt (i := 7) rfl) rfl (fun ls' h3 => k p e R s m args below meth c H locs cells slots Z ls' hF hK hR hP hS (hg_lok.put h0 h2 (i := 7) (fun w _ hw => by have e : b6 = some w := Option.some.inj hw; subst e; exact beq_iff_eq.mp hb) h3) hz hret)
theorem hg_iload8 {x : Int32} {b0 b1 b2 b3 b4 b5 b6 b7 : Option Value} {br : List (Option Value)} (hd : hg_D Y pc pc' 2 (.iload 8)) (k : hg_WP l E d Y mc ms pc' (b0 :: b1 :: b2 :: b3 :: b4 :: b5 :: b6 :: b7 :: some (.int x) :: br) (.int x :: st) M Q) : hg_WP l E d Y mc ms pc (b0 :: b1 :: b2 :: b3 :: b4 :: b5 :: b6 :: b7 :: some (.int x) :: br) (st) M Q := by
  intro p e R s m args below meth c H locs cells slots Z ls hF hK hR hP hS hL hz hret
  obtain ⟨hd, rfl⟩ := hd
  exact lv_iload hF.1 hF.2.1 hd (hL.get (i := 8) rfl) (k p e R s m args below meth c H locs cells slots Z ls hF hK hR hP hS hL hz hret)
theorem hg_lload8 {x : Int64} {b0 b1 b2 b3 b4 b5 b6 b7 : Option Value} {br : List (Option Value)} (hd : hg_D Y pc pc' 2 (.lload 8)) (k : hg_WP l E d Y mc ms pc' (b0 :: b1 :: b2 :: b3 :: b4 :: b5 :: b6 :: b7 :: some (.long x) :: br) (.long x :: st) M Q) : hg_WP l E d Y mc ms pc (b0 :: b1 :: b2 :: b3 :: b4 :: b5 :: b6 :: b7 :: some (.long x) :: br) (st) M Q := by
  intro p e R s m args below meth c H locs cells slots Z ls hF hK hR hP hS hL hz hret
  obtain ⟨hd, rfl⟩ := hd
  exact lv_lload hF.1 hF.2.1 hd (hL.get (i := 8) rfl) (k p e R s m args below meth c H locs cells slots Z ls hF hK hR hP hS hL hz hret)
theorem hg_aload8 {x : Nat} {b0 b1 b2 b3 b4 b5 b6 b7 : Option Value} {br : List (Option Value)} (hd : hg_D Y pc pc' 2 (.aload 8)) (k : hg_WP l E d Y mc ms pc' (b0 :: b1 :: b2 :: b3 :: b4 :: b5 :: b6 :: b7 :: some (.ref x) :: br) (.ref x :: st) M Q) : hg_WP l E d Y mc ms pc (b0 :: b1 :: b2 :: b3 :: b4 :: b5 :: b6 :: b7 :: some (.ref x) :: br) (st) M Q := by
  intro p e R s m args below meth c H locs cells slots Z ls hF hK hR hP hS hL hz hret
  obtain ⟨hd, rfl⟩ := hd
  exact lv_aload hF.1 hF.2.1 hd (hL.get (i := 8) rfl) (k p e R s m args below meth c H locs cells slots Z ls hF hK hR hP hS hL hz hret)
theorem hg_istore8 {x : Int32} {b0 b1 b2 b3 b4 b5 b6 b7 br0 : Option Value} {br : List (Option Value)} (hd : hg_D Y pc pc' 2 (.istore 8)) (hb : hg_c1 b7 = true) (k : hg_WP l E d Y mc ms pc' (b0 :: b1 :: b2 :: b3 :: b4 :: b5 :: b6 :: b7 :: some (.int x) :: br) (st) M Q) : hg_WP l E d Y mc ms pc (b0 :: b1 :: b2 :: b3 :: b4 :: b5 :: b6 :: b7 :: br0 :: br) (.int x :: st) M Q := by
  intro p e R s m args below meth c H locs cells slots Z ls hF hK hR hP hS hL hz hret
  obtain ⟨hd, rfl⟩ := hd
  obtain ⟨h0, lv, h1, h2⟩ := id hL
  exact lv_istore hF.1 hF.2.1 hd h1 (hL.lt (i := 8) rfl) rfl (fun ls' h3 => k p e R s m args below meth c H locs cells slots Z ls' hF hK hR hP hS (hg_lok.put h0 h2 (i := 8) (fun w _ hw => by have e : b7 = some w := Option.some.inj hw; subst e; exact beq_iff_eq.mp hb) h3) hz hret)
theorem hg_astore8 {x : Nat} {b0 b1 b2 b3 b4 b5 b6 b7 br0 : Option Value} {br : List (Option Value)} (hd : hg_D Y pc pc' 2 (.astore 8)) (hb : hg_c1 b7 = true) (k : hg_WP l E d Y mc ms pc' (b0 :: b1 :: b2 :: b3 :: b4 :: b5 :: b6 :: b7 :: some (.ref x) :: br) (st) M Q) : hg_WP l E d Y mc ms pc (b0 :: b1 :: b2 :: b3 :: b4 :: b5 :: b6 :: b7 :: br0 :: br) (.ref x :: st) M Q := by
  intro p e R s m args below meth c H locs cells slots Z ls hF hK hR hP hS hL hz hret
  obtain ⟨hd, rfl⟩ := hd
  obtain ⟨h0, lv, h1, h2⟩ := id hL
  exact lv_astore hF.1 hF.2.1 hd h1 (hL.lt (i := 8) rfl) rfl (fun ls' h3 => k p e R s m args below meth c H locs cells slots Z ls' hF hK hR hP hS (hg_lok.put h0 h2 (i := 8) (fun w _ hw => by have e : b7 = some w := Option.some.inj hw; subst e; exact beq_iff_eq.mp hb) h3) hz hret)
theorem hg_astoreN8 {b0 b1 b2 b3 b4 b5 b6 b7 br0 : Option Value} {br : List (Option Value)} (hd : hg_D Y pc pc' 2 (.astore 8)) (hb : hg_c1 b7 = true) (k : hg_WP l E d Y mc ms pc' (b0 :: b1 :: b2 :: b3 :: b4 :: b5 :: b6 :: b7 :: some (.null) :: br) (st) M Q) : hg_WP l E d Y mc ms pc (b0 :: b1 :: b2 :: b3 :: b4 :: b5 :: b6 :: b7 :: br0 :: br) (.null :: st) M Q := by
  intro p e R s m args below meth c H locs cells slots Z ls hF hK hR hP hS hL hz hret
  obtain ⟨hd, rfl⟩ := hd
  obtain ⟨h0, lv, h1, h2⟩ := id hL
  exact lv_astoreN hF.1 hF.2.1 hd h1 (hL.lt (i := 8) rfl) rfl (fun ls' h3 => k p e R s m args below meth c H locs cells slots Z ls' hF hK hR hP hS (hg_lok.put h0 h2 (i := 8) (fun w _ hw => by have e : b7 = some w := Option.some.inj hw; subst e; exact beq_iff_eq.mp hb) h3) hz hret)
theorem hg_lstore8 {x : Int64} {b0 b1 b2 b3 b4 b5 b6 b7 br0 br1 : Option Value} {br : List (Option Value)} (hd : hg_D Y pc pc' 2 (.lstore 8)) (hb : hg_c1 b7 = true) (k : hg_WP l E d Y mc ms pc' (b0 :: b1 :: b2 :: b3 :: b4 :: b5 :: b6 :: b7 :: some (.long x) :: none :: br) (st) M Q) : hg_WP l E d Y mc ms pc (b0 :: b1 :: b2 :: b3 :: b4 :: b5 :: b6 :: b7 :: br0 :: br1 :: br) (.long x :: st) M Q := by
  intro p e R s m args below meth c H locs cells slots Z ls hF hK hR hP hS hL hz hret
  obtain ⟨hd, rfl⟩ := hd
  obtain ⟨h0, lv, h1, h2⟩ := id hL
  exact lv_lstore hF.1 hF.2.1 hd h1 (hL.lt (i := 9) rfl) rfl (fun ls' h3 => k p e R s m args below meth c H locs cells slots Z ls' hF hK hR hP hS (hg_lok.putl h0 h2 (i := 8) (fun w _ hw => by have e : b7 = some w := Option.some.inj hw; subst e; exact beq_iff_eq.mp hb) h3) hz hret)
theorem hg_iinc8 {x v : Int32} {n : Int} {b0 b1 b2 b3 b4 b5 b6 b7 : Option Value} {br : List (Option Value)} (hd : hg_D Y pc pc' 3 (.iinc 8 n)) (hb : hg_c1 b7 = true) (hv : x + Int32.ofInt n = v) (k : hg_WP l E d Y mc ms pc' (b0 :: b1 :: b2 :: b3 :: b4 :: b5 :: b6 :: b7 :: some (.int v) :: br) (st) M Q) : hg_WP l E d Y mc ms pc (b0 :: b1 :: b2 :: b3 :: b4 :: b5 :: b6 :: b7 :: some (.int x) :: br) (st) M Q := by
  intro p e R s m args below meth c H locs cells slots Z ls hF hK hR hP hS hL hz hret
  obtain ⟨hd, rfl⟩ := hd
  obtain ⟨h0, lv, h1, h2⟩ := id hL
  obtain ⟨q, hq⟩ := List.getElem?_of_mem (h2 8 (.int x) rfl)
  exact lv_iinc hF.1 hF.2.1 hd h1 hq hv (hL.lt (i := 8) rfl) rfl (fun ls' h3 => k p e R s m args below meth c H locs cells slots Z ls' hF hK hR hP hS (hg_lok.put h0 h2 (i := 8) (fun w _ hw => by have e : b7 = some w := Option.some.inj hw; subst e; exact beq_iff_eq.mp hb) h3) hz hret)
theorem hg_iload9 {x : Int32} {b0 b1 b2 b3 b4 b5 b6 b7 b8 : Option Value} {br : List (Option Value)} (hd : hg_D Y pc pc' 2 (.iload 9)) (k : hg_WP l E d Y mc ms pc' (b0 :: b1 :: b2 :: b3 :: b4 :: b5 :: b6 :: b7 :: b8 :: some (.int x) :: br) (.int x :: st) M Q) : hg_WP l E d Y mc ms pc (b0 :: b1 :: b2 :: b3 :: b4 :: b5 :: b6 :: b7 :: b8 :: some (.int x) :: br) (st) M Q := by
  intro p e R s m args below meth c H locs cells slots Z ls hF hK hR hP hS hL hz hret
  obtain ⟨hd, rfl⟩ := hd
  exact lv_iload hF.1 hF.2.1 hd (hL.get (i := 9) rfl) (k p e R s m args below meth c H locs cells slots Z ls hF hK hR hP hS hL hz hret)
theorem hg_lload9 {x : Int64} {b0 b1 b2 b3 b4 b5 b6 b7 b8 : Option Value} {br : List (Option Value)} (hd : hg_D Y pc pc' 2 (.lload 9)) (k : hg_WP l E d Y mc ms pc' (b0 :: b1 :: b2 :: b3 :: b4 :: b5 :: b6 :: b7 :: b8 :: some (.long x) :: br) (.long x :: st) M Q) : hg_WP l E d Y mc ms pc (b0 :: b1 :: b2 :: b3 :: b4 :: b5 :: b6 :: b7 :: b8 :: some (.long x) :: br) (st) M Q := by
  intro p e R s m args below meth c H locs cells slots Z ls hF hK hR hP hS hL hz hret
  obtain ⟨hd, rfl⟩ := hd
  exact lv_lload hF.1 hF.2.1 hd (hL.get (i := 9) rfl) (k p e R s m args below meth c H locs cells slots Z ls hF hK hR hP hS hL hz hret)
theorem hg_aload9 {x : Nat} {b0 b1 b2 b3 b4 b5 b6 b7 b8 : Option Value} {br : List (Option Value)} (hd : hg_D Y pc pc' 2 (.aload 9)) (k : hg_WP l E d Y mc ms pc' (b0 :: b1 :: b2 :: b3 :: b4 :: b5 :: b6 :: b7 :: b8 :: some (.ref x) :: br) (.ref x :: st) M Q) : hg_WP l E d Y mc ms pc (b0 :: b1 :: b2 :: b3 :: b4 :: b5 :: b6 :: b7 :: b8 :: some (.ref x) :: br) (st) M Q := by
  intro p e R s m args below meth c H locs cells slots Z ls hF hK hR hP hS hL hz hret
  obtain ⟨hd, rfl⟩ := hd
  exact lv_aload hF.1 hF.2.1 hd (hL.get (i := 9) rfl) (k p e R s m args below meth c H locs cells slots Z ls hF hK hR hP hS hL hz hret)
theorem hg_istore9 {x : Int32} {b0 b1 b2 b3 b4 b5 b6 b7 b8 br0 : Option Value} {br : List (Option Value)} (hd : hg_D Y pc pc' 2 (.istore 9)) (hb : hg_c1 b8 = true) (k : hg_WP l E d Y mc ms pc' (b0 :: b1 :: b2 :: b3 :: b4 :: b5 :: b6 :: b7 :: b8 :: some (.int x) :: br) (st) M Q) : hg_WP l E d Y mc ms pc (b0 :: b1 :: b2 :: b3 :: b4 :: b5 :: b6 :: b7 :: b8 :: br0 :: br) (.int x :: st) M Q := by
  intro p e R s m args below meth c H locs cells slots Z ls hF hK hR hP hS hL hz hret
  obtain ⟨hd, rfl⟩ := hd
  obtain ⟨h0, lv, h1, h2⟩ := id hL
  exact lv_istore hF.1 hF.2.1 hd h1 (hL.lt (i := 9) rfl) rfl (fun ls' h3 => k p e R s m args below meth c H locs cells slots Z ls' hF hK hR hP hS (hg_lok.put h0 h2 (i := 9) (fun w _ hw => by have e : b8 = some w := Option.some.inj hw; subst e; exact beq_iff_eq.mp hb) h3) hz hret)
theorem hg_astore9 {x : Nat} {b0 b1 b2 b3 b4 b5 b6 b7 b8 br0 : Option Value} {br : List (Option Value)} (hd : hg_D Y pc pc' 2 (.astore 9)) (hb : hg_c1 b8 = true) (k : hg_WP l E d Y mc ms pc' (b0 :: b1 :: b2 :: b3 :: b4 :: b5 :: b6 :: b7 :: b8 :: some (.ref x) :: br) (st) M Q) : hg_WP l E d Y mc ms pc (b0 :: b1 :: b2 :: b3 :: b4 :: b5 :: b6 :: b7 :: b8 :: br0 :: br) (.ref x :: st) M Q := by
  intro p e R s m args below meth c H locs cells slots Z ls hF hK hR hP hS hL hz hret
  obtain ⟨hd, rfl⟩ := hd
  obtain ⟨h0, lv, h1, h2⟩ := id hL
  exact lv_astore hF.1 hF.2.1 hd h1 (hL.lt (i := 9) rfl) rfl (fun ls' h3 => k p e R s m args below meth c H locs cells slots Z ls' hF hK hR hP hS (hg_lok.put h0 h2 (i := 9) (fun w _ hw => by have e : b8 = some w := Option.some.inj hw; subst e; exact beq_iff_eq.mp hb) h3) hz hret)
theorem hg_astoreN9 {b0 b1 b2 b3 b4 b5 b6 b7 b8 br0 : Option Value} {br : List (Option Value)} (hd : hg_D Y pc pc' 2 (.astore 9)) (hb : hg_c1 b8 = true) (k : hg_WP l E d Y mc ms pc' (b0 :: b1 :: b2 :: b3 :: b4 :: b5 :: b6 :: b7 :: b8 :: some (.null) :: br) (st) M Q) : hg_WP l E d Y mc ms pc (b0 :: b1 :: b2 :: b3 :: b4 :: b5 :: b6 :: b7 :: b8 :: br0 :: br) (.null :: st) M Q := by
  intro p e R s m args below meth c H locs cells slots Z ls hF hK hR hP hS hL hz hret
  obtain ⟨hd, rfl⟩ := hd
  obtain ⟨h0, lv, h1, h2⟩ := id hL
  exact lv_astoreN hF.1 hF.2.1 hd h1 (hL.lt (i := 9) rfl) rfl (fun ls' h3 => k p e R s m args below meth c H locs cells slots Z ls' hF hK hR hP hS (hg_lok.put h0 h2 (i := 9) (fun w _ hw => by have e : b8 = some w := Option.some.inj hw; subst e; exact beq_iff_eq.mp hb) h3) hz hret)
theorem hg_lstore9 {x : Int64} {b0 b1 b2 b3 b4 b5 b6 b7 b8 br0 br1 : Option Value} {br : List (Option Value)} (hd : hg_D Y pc pc' 2 (.lstore 9)) (hb : hg_c1 b8 = true) (k : hg_WP l E d Y mc ms pc' (b0 :: b1 :: b2 :: b3 :: b4 :: b5 :: b6 :: b7 :: b8 :: some (.long x) :: none :: br) (st) M Q) : hg_WP l E d Y mc ms pc (b0 :: b1 :: b2 :: b3 :: b4 :: b5 :: b6 :: b7 :: b8 :: br0 :: br1 :: br) (.long x :: st) M Q := by
  intro p e R s m args below meth c H locs cells slots Z ls hF hK hR hP hS hL hz hret
  obtain ⟨hd, rfl⟩ := hd
  obtain ⟨h0, lv, h1, h2⟩ := id hL
  exact lv_lstore hF.1 hF.2.1 hd h1 (hL.lt (i := 10) rfl) rfl (fun ls' h3 => k p e R s m args below meth c H locs cells slots Z ls' hF hK hR hP hS (hg_lok.putl h0 h2 (i := 9) (fun w _ hw => by have e : b8 = some w := Option.some.inj hw; subst e; exact beq_iff_eq.mp hb) h3) hz hret)
theorem hg_iinc9 {x v : Int32} {n : Int} {b0 b1 b2 b3 b4 b5 b6 b7 b8 : Option Value} {br : List (Option Value)} (hd : hg_D Y pc pc' 3 (.iinc 9 n)) (hb : hg_c1 b8 = true) (hv : x + Int32.ofInt n = v) (k : hg_WP l E d Y mc ms pc' (b0 :: b1 :: b2 :: b3 :: b4 :: b5 :: b6 :: b7 :: b8 :: some (.int v) :: br) (st) M Q) : hg_WP l E d Y mc ms pc (b0 :: b1 :: b2 :: b3 :: b4 :: b5 :: b6 :: b7 :: b8 :: some (.int x) :: br) (st) M Q := by
  intro p e R s m args below meth c H locs cells slots Z ls hF hK hR hP hS hL hz hret
  obtain ⟨hd, rfl⟩ := hd
  obtain ⟨h0, lv, h1, h2⟩ := id hL
  obtain ⟨q, hq⟩ := List.getElem?_of_mem (h2 9 (.int x) rfl)
  exact lv_iinc hF.1 hF.2.1 hd h1 hq hv (hL.lt (i := 9) rfl) rfl (fun ls' h3 => k p e R s m args below meth c H locs cells slots Z ls' hF hK hR hP hS (hg_lok.put h0 h2 (i := 9) (fun w _ hw => by have e : b8 = some w := Option.some.inj hw; subst e; exact beq_iff_eq.mp hb) h3) hz hret)
theorem hg_iload10 {x : Int32} {b0 b1 b2 b3 b4 b5 b6 b7 b8 b9 : Option Value} {br : List (Option Value)} (hd : hg_D Y pc pc' 2 (.iload 10)) (k : hg_WP l E d Y mc ms pc' (b0 :: b1 :: b2 :: b3 :: b4 :: b5 :: b6 :: b7 :: b8 :: b9 :: some (.int x) :: br) (.int x :: st) M Q) : hg_WP l E d Y mc ms pc (b0 :: b1 :: b2 :: b3 :: b4 :: b5 :: b6 :: b7 :: b8 :: b9 :: some (.int x) :: br) (st) M Q := by
  intro p e R s m args below meth c H locs cells slots Z ls hF hK hR hP hS hL hz hret
  obtain ⟨hd, rfl⟩ := hd
  exact lv_iload hF.1 hF.2.1 hd (hL.get (i := 10) rfl) (k p e R s m args below meth c H locs cells slots Z ls hF hK hR hP hS hL hz hret)
theorem hg_lload10 {x : Int64} {b0 b1 b2 b3 b4 b5 b6 b7 b8 b9 : Option Value} {br : List (Option Value)} (hd : hg_D Y pc pc' 2 (.lload 10)) (k : hg_WP l E d Y mc ms pc' (b0 :: b1 :: b2 :: b3 :: b4 :: b5 :: b6 :: b7 :: b8 :: b9 :: some (.long x) :: br) (.long x :: st) M Q) : hg_WP l E d Y mc ms pc (b0 :: b1 :: b2 :: b3 :: b4 :: b5 :: b6 :: b7 :: b8 :: b9 :: some (.long x) :: br) (st) M Q := by
  intro p e R s m args below meth c H locs cells slots Z ls hF hK hR hP hS hL hz hret
  obtain ⟨hd, rfl⟩ := hd
  exact lv_lload hF.1 hF.2.1 hd (hL.get (i := 10) rfl) (k p e R s m args below meth c H locs cells slots Z ls hF hK hR hP hS hL hz hret)
theorem hg_aload10 {x : Nat} {b0 b1 b2 b3 b4 b5 b6 b7 b8 b9 : Option Value} {br : List (Option Value)} (hd : hg_D Y pc pc' 2 (.aload 10)) (k : hg_WP l E d Y mc ms pc' (b0 :: b1 :: b2 :: b3 :: b4 :: b5 :: b6 :: b7 :: b8 :: b9 :: some (.ref x) :: br) (.ref x :: st) M Q) : hg_WP l E d Y mc ms pc (b0 :: b1 :: b2 :: b3 :: b4 :: b5 :: b6 :: b7 :: b8 :: b9 :: some (.ref x) :: br) (st) M Q := by
  intro p e R s m args below meth c H locs cells slots Z ls hF hK hR hP hS hL hz hret
  obtain ⟨hd, rfl⟩ := hd
  exact lv_aload hF.1 hF.2.1 hd (hL.get (i := 10) rfl) (k p e R s m args below meth c H locs cells slots Z ls hF hK hR hP hS hL hz hret)
theorem hg_istore10 {x : Int32} {b0 b1 b2 b3 b4 b5 b6 b7 b8 b9 br0 : Option Value} {br : List (Option Value)} (hd : hg_D Y pc pc' 2 (.istore 10)) (hb : hg_c1 b9 = true) (k : hg_WP l E d Y mc ms pc' (b0 :: b1 :: b2 :: b3 :: b4 :: b5 :: b6 :: b7 :: b8 :: b9 :: some (.int x) :: br) (st) M Q) : hg_WP l E d Y mc ms pc (b0 :: b1 :: b2 :: b3 :: b4 :: b5 :: b6 :: b7 :: b8 :: b9 :: br0 :: br) (.int x :: st) M Q := by
  intro p e R s m args below meth c H locs cells slots Z ls hF hK hR hP hS hL hz hret
  obtain ⟨hd, rfl⟩ := hd
  obtain ⟨h0, lv, h1, h2⟩ := id hL
  exact lv_istore hF.1 hF.2.1 hd h1 (hL.lt (i := 10) rfl) rfl (fun ls' h3 => k p e R s m args below meth c H locs cells slots Z ls' hF hK hR hP hS (hg_lok.put h0 h2 (i := 10) (fun w _ hw => by have e : b9 = some w := Option.some.inj hw; subst e; exact beq_iff_eq.mp hb) h3) hz hret)
theorem hg_astore10 {x : Nat} {b0 b1 b2 b3 b4 b5 b6 b7 b8 b9 br0 : Option Value} {br : List (Option Value)} (hd : hg_D Y pc pc' 2 (.astore 10)) (hb : hg_c1 b9 = true) (k : hg_WP l E d Y mc ms pc' (b0 :: b1 :: b2 :: b3 :: b4 :: b5 :: b6 :: b7 :: b8 :: b9 :: some (.ref x) :: br) (st) M Q) : hg_WP l E d Y mc ms pc (b0 :: b1 :: b2 :: b3 :: b4 :: b5 :: b6 :: b7 :: b8 :: b9 :: br0 :: br) (.ref x :: st) M Q := by
  intro p e R s m args below meth c H locs cells slots Z ls hF hK hR hP hS hL hz hret
  obtain ⟨hd, rfl⟩ := hd
  obtain ⟨h0, lv, h1, h2⟩ := id hL
  exact lv_astore hF.1 hF.2.1 hd h1 (hL.lt (i := 10) rfl) rfl (fun ls' h3 => k p e R s m args below meth c H locs cells slots Z ls' hF hK hR hP hS (hg_lok.put h0 h2 (i := 10) (fun w _ hw => by have e : b9 = some w := Option.some.inj hw; subst e; exact beq_iff_eq.mp hb) h3) hz hret)
theorem hg_astoreN10 {b0 b1 b2 b3 b4 b5 b6 b7 b8 b9 br0 : Option Value} {br : List (Option Value)} (hd : hg_D Y pc pc' 2 (.astore 10)) (hb : hg_c1 b9 = true) (k : hg_WP l E d Y mc ms pc' (b0 :: b1 :: b2 :: b3 :: b4 :: b5 :: b6 :: b7 :: b8 :: b9 :: some (.null) :: br) (st) M Q) : hg_WP l E d Y mc ms pc (b0 :: b1 :: b2 :: b3 :: b4 :: b5 :: b6 :: b7 :: b8 :: b9 :: br0 :: br) (.null :: st) M Q := by
  intro p e R s m args below meth c H locs cells slots Z ls hF hK hR hP hS hL hz hret
  obtain ⟨hd, rfl⟩ := hd
  obtain ⟨h0, lv, h1, h2⟩ := id hL
  exact lv_astoreN hF.1 hF.2.1 hd h1 (hL.lt (i := 10) rfl) rfl (fun ls' h3 => k p e R s m args below meth c H locs cells slots Z ls' hF hK hR hP hS (hg_lok.put h0 h2 (i := 10) (fun w _ hw => by have e : b9 = some w := Option.some.inj hw; subst e; exact beq_iff_eq.mp hb) h3) hz hret)
theorem hg_lstore10 {x : Int64} {b0 b1 b2 b3 b4 b5 b6 b7 b8 b9 br0 br1 : Option Value} {br : List (Option Value)} (hd : hg_D Y pc pc' 2 (.lstore 10)) (hb : hg_c1 b9 = true) (k : hg_WP l E d Y mc ms pc' (b0 :: b1 :: b2 :: b3 :: b4 :: b5 :: b6 :: b7 :: b8 :: b9 :: some (.long x) :: none :: br) (st) M Q) : hg_WP l E d Y mc ms pc (b0 :: b1 :: b2 :: b3 :: b4 :: b5 :: b6 :: b7 :: b8 :: b9 :: br0 :: br1 :: br) (.long x :: st) M Q := by
  intro p e R s m args below meth c H locs cells slots Z ls hF hK hR hP hS hL hz hret
  obtain ⟨hd, rfl⟩ := hd
  obtain ⟨h0, lv, h1, h2⟩ := id hL
  exact lv_lstore hF.1 hF.2.1 hd h1 (hL.lt (i := 11) rfl) rfl (fun ls' h3 => k p e R s m args below meth c H locs cells slots Z ls' hF hK hR hP hS (hg_lok.putl h0 h2 (i := 10) (fun w _ hw => by have e : b9 = some w := Option.some.inj hw; subst e; exact beq_iff_eq.mp hb) h3) hz hret)
theorem hg_iinc10 {x v : Int32} {n : Int} {b0 b1 b2 b3 b4 b5 b6 b7 b8 b9 : Option Value} {br : List (Option Value)} (hd : hg_D Y pc pc' 3 (.iinc 10 n)) (hb : hg_c1 b9 = true) (hv : x + Int32.ofInt n = v) (k : hg_WP l E d Y mc ms pc' (b0 :: b1 :: b2 :: b3 :: b4 :: b5 :: b6 :: b7 :: b8 :: b9 :: some (.int v) :: br) (st) M Q) : hg_WP l E d Y mc ms pc (b0 :: b1 :: b2 :: b3 :: b4 :: b5 :: b6 :: b7 :: b8 :: b9 :: some (.int x) :: br) (st) M Q := by
  intro p e R s m args below meth c H locs cells slots Z ls hF hK hR hP hS hL hz hret
  obtain ⟨hd, rfl⟩ := hd
  obtain ⟨h0, lv, h1, h2⟩ := id hL
  obtain ⟨q, hq⟩ := List.getElem?_of_mem (h2 10 (.int x) rfl)
  exact lv_iinc hF.1 hF.2.1 hd h1 hq hv (hL.lt (i := 10) rfl) rfl (fun ls' h3 => k p e R s m args below meth c H locs cells slots Z ls' hF hK hR hP hS (hg_lok.put h0 h2 (i := 10) (fun w _ hw => by have e : b9 = some w := Option.some.inj hw; subst e; exact beq_iff_eq.mp hb) h3) hz hret)
-- cells of the memory
theorem hg_fix.ts {p : Program} {Y : hg_Y} {s : State} {m : MethodId} {args : Array Value} {meth : Method} {c : Code} (h : hg_fix p Y s m args meth c) {w : Cond} (hw : w ∈ hg_T) : w.before args s = true := h.2.2.2.2.1 w hw
theorem hg_rep.obj {H : Heap} {k i c : Nat} (h : hg_rep E M H) (hk : hg_cl k = some c) (hi : i < hg_ct M k) : t_OB (hg_ad E k i) (E.1 c) (hg_N c) (E.2.1 c) H (hg_fv E M k i c) := by
  have h1 := h.2.2 k i hi
  unfold hg_cell at h1
  rw [hk] at h1
  exact h1
theorem hg_rep.arr {H : Heap} {k i : Nat} (h : hg_rep E M H) (hk : hg_cl k = none) (hi : i < hg_ct M k) : H[hg_ad E k i]? = some (arrV (hg_cA E (hg_ty k)) (hg_ln M k i) (hg_av E M k i)) := by
  have h1 := h.2.2 k i hi
  unfold hg_cell at h1
  rw [hk] at h1
  exact h1
theorem hg_cell.kept {H H1 : Heap} {k i : Nat} (h : hg_cell E M k i H) (hq : H1[hg_ad E k i]? = H[hg_ad E k i]?) : hg_cell E M k i H1 := by
  unfold hg_cell at h ⊢
  split at h
  · exact h.kept hq
  · rw [hq]; exact h
theorem hg_cell.congr {M' : hg_M} {H : Heap} {k i : Nat} (h : hg_cell E M k i H) (hI : ∀ j, M'.1 k i j = M.1 k i j) (hL : ∀ j, M'.2.1 k i j = M.2.1 k i j) (hR : ∀ j, M'.2.2.1 k i j = M.2.2.1 k i j) (hN : hg_ln M' k i = hg_ln M k i) : hg_cell E M' k i H := by
  have e1 : ∀ c, hg_fv E M' k i c = hg_fv E M k i c := fun c => funext fun j => by simp only [hg_fv, hI, hR]
  have e2 : hg_av E M' k i = hg_av E M k i := funext fun j => by simp only [hg_av, hI, hL, hR]
  unfold hg_cell at h ⊢
  split at h
  · rw [e1]; exact h
  · rw [e2, hN]; exact h
theorem hg_rep.upd {M' : hg_M} {H H1 : Heap} {k i : Nat} (h : hg_rep E M H) (hz : H1.size = H.size) (oq : ∀ q, q ≠ hg_ad E k i → H1[q]? = H[q]?) (hi : i < hg_ct M k) (hX : M'.2.2.2 = M.2.2.2) (hs : ∀ k' i', ¬ (k' = k ∧ i' = i) → (∀ j, M'.1 k' i' j = M.1 k' i' j) ∧ (∀ j, M'.2.1 k' i' j = M.2.1 k' i' j) ∧ ∀ j, M'.2.2.1 k' i' j = M.2.2.1 k' i' j) (hc : hg_cell E M' k i H1) : hg_rep E M' H1 := by
  obtain ⟨h1, h2, h3⟩ := h
  refine ⟨by rw [hz, h1]; show _ = _ + M'.2.2.2.1; rw [hX], fun k' => by show M'.2.2.2.2.1 k' ≤ _; rw [hX]; exact h2 k', fun k' i' hi' => ?_⟩
  have hi2 : i' < hg_ct M k' := by have e : hg_ct M' k' = hg_ct M k' := by show M'.2.2.2.2.1 k' = _; rw [hX]
                                   rw [← e]; exact hi'
  by_cases hq : k' = k ∧ i' = i
  · obtain ⟨rfl, rfl⟩ := hq; exact hc
  · obtain ⟨s1, s2, s3⟩ := hs k' i' hq
    refine ((h3 k' i' hi2).kept (oq _ (fun e => hq ?_))).congr s1 s2 s3 (by show M'.2.2.2.2.2 k' i' = _; rw [hX])
    exact hg_sq_inj (Nat.lt_of_lt_of_le hi2 (h2 k')) (Nat.lt_of_lt_of_le hi (h2 k)) (Nat.add_left_cancel e)
theorem hg_rep.lt {H : Heap} {k i : Nat} (h : hg_rep E M H) (hi : i < hg_ct M k) : hg_ad E k i < H.size := by
  have h1 := h.2.2 k i hi
  unfold hg_cell at h1
  split at h1
  · obtain ⟨cell, q, -⟩ := h1
    exact (Array.getElem?_eq_some_iff.mp q).1
  · exact (Array.getElem?_eq_some_iff.mp h1).1
def hg_u3 {α : Type} (f : Nat → Nat → Nat → α) (k i j : Nat) (x : α) : Nat → Nat → Nat → α := fun k' i' j' => if k' = k ∧ i' = i ∧ j' = j then x else f k' i' j'
def hg_z3 {α : Type} (f : Nat → Nat → Nat → α) (k i : Nat) (x : α) : Nat → Nat → Nat → α := fun k' i' j' => if k' = k ∧ i' = i then x else f k' i' j'
def hg_cp {α : Type} (f : Nat → Nat → Nat → α) (k i k0 i0 sp dp n : Nat) : Nat → Nat → Nat → α := fun k' i' j' => if k' = k ∧ i' = i ∧ dp ≤ j' ∧ j' < dp + n then f k0 i0 (sp + (j' - dp)) else f k' i' j'
theorem hg_u3s {α : Type} (f : Nat → Nat → Nat → α) (k i j : Nat) (x : α) : hg_u3 f k i j x k i j = x := by simp [hg_u3]
theorem hg_u3k {α : Type} {f : Nat → Nat → Nat → α} {k i j : Nat} {x : α} {k' i' j' : Nat} (h : ¬ (k' = k ∧ i' = i)) : hg_u3 f k i j x k' i' j' = f k' i' j' := by
  unfold hg_u3
  rw [if_neg (fun q => h ⟨q.1, q.2.1⟩)]
theorem hg_va_P1 {H : Heap} {k i c : Nat} (hc : c < 9) (h : t_OB (hg_ad E k i) (E.1 c) (hg_N c) (E.2.1 c) H (hg_fv E M k i c)) : va_P (E.1, E.2.1) hg_cls [(hg_ad E k i, .inr (c, (List.range (hg_N c)).map (hg_fv E M k i c)))] H := by
  intro x q hx
  have hz : x < 1 := (List.getElem?_eq_some_iff.mp hx).1
  rw [show x = 0 by omega] at hx
  cases hx
  refine ⟨_, hg_cls_at hc, h.to (fun j hj => ?_)⟩
  have hj : j < hg_N c := hj
  simp [vp_V, List.getD_eq_getElem?_getD, hj]
theorem hg_cl9 : ∀ k c, hg_cl k = some c → c < 9 := by
  intro k c h
  unfold hg_cl at h
  split at h <;> cases h <;> decide
theorem hg_ty6 (k : Nat) : hg_ty k < 6 := by
  unfold hg_ty
  split <;> decide
theorem hg_arrof {s : State} {k n : Nat} {f : Nat → Value} (hK : hg_kn E s) : s.isArrayOf (arrV (hg_cA E (hg_ty k)) n f) (hg_fty (hg_ty k)) := (hK.1.2 _ _ (hg_tys_at E (hg_ty6 k))).1 n f
variable {I : Nat → Nat → Nat → Int32} {Lg : Nat → Nat → Nat → Int64} {Rf : Nat → Nat → Nat → Option (Nat × Nat)} {X : Nat × (Nat → Nat) × (Nat → Nat → Nat)}
theorem hg_getI {idx ci j k i : Nat} (hd : hg_D Y pc pc' 3 (.getfield idx)) (hf : hg_FL Y.1.cls idx ci j) (hk : hg_cl k = some ci) (hj : hg_isR (hg_tt ci j) = false) (hi : i < X.2.1 k) (kk : hg_WP l E d Y mc ms pc' loc (.int (I k i j) :: st) (I, Lg, Rf, X) Q) : hg_WP l E d Y mc ms pc loc (.ref (hg_ad E k i) :: st) (I, Lg, Rf, X) Q := by
  intro p e R s m args below meth c H locs cells slots Z ls hF hK hR hP hS hL hz hret
  obtain ⟨hd, rfl⟩ := hd
  have hv : ((List.range (hg_N ci)).map (hg_fv E (I, Lg, Rf, X) k i ci))[j]? = some (.int (I k i j)) := by
    simp [hf.2.1, hg_fv, hj]
  exact va_get (own := Y.1.cls) (ref := (hg_Tb ci j).1) (C := hg_C ci) (T := hg_Tb ci) (N := hg_N ci) hF.1 hF.2.1 hF.2.2.2.2.1 (hg_lay hf.1) hF.2.2.2.1 hK.1 (hg_va_P1 hf.1 (hP.obj hk hi)) 0 rfl (hg_cls_at hf.1) j hf.2.1 (hF.ts hf.2.2) (fun x h => h) hv hd (kk p e R s m args below meth c H locs cells slots Z ls hF hK hR hP hS hL hz hret)
theorem hg_getR {idx ci j k i k' i' : Nat} (hd : hg_D Y pc pc' 3 (.getfield idx)) (hf : hg_FL Y.1.cls idx ci j) (hk : hg_cl k = some ci) (hj : hg_isR (hg_tt ci j) = true) (hi : i < X.2.1 k) (hr : Rf k i j = some (k', i')) (kk : hg_WP l E d Y mc ms pc' loc (.ref (hg_ad E k' i') :: st) (I, Lg, Rf, X) Q) : hg_WP l E d Y mc ms pc loc (.ref (hg_ad E k i) :: st) (I, Lg, Rf, X) Q := by
  intro p e R s m args below meth c H locs cells slots Z ls hF hK hR hP hS hL hz hret
  obtain ⟨hd, rfl⟩ := hd
  have hv : ((List.range (hg_N ci)).map (hg_fv E (I, Lg, Rf, X) k i ci))[j]? = some (.ref (hg_ad E k' i')) := by
    simp [hf.2.1, hg_fv, hj, hr, hg_rv]
  exact va_get (own := Y.1.cls) (ref := (hg_Tb ci j).1) (C := hg_C ci) (T := hg_Tb ci) (N := hg_N ci) hF.1 hF.2.1 hF.2.2.2.2.1 (hg_lay hf.1) hF.2.2.2.1 hK.1 (hg_va_P1 hf.1 (hP.obj hk hi)) 0 rfl (hg_cls_at hf.1) j hf.2.1 (hF.ts hf.2.2) (fun x h => h) hv hd (kk p e R s m args below meth c H locs cells slots Z ls hF hK hR hP hS hL hz hret)
/-- a store into a field: the cell behind it -/
theorem hg_fput {s : State} {c j k i : Nat} {v : Value} (hc : c < 9) (hj : j < hg_N c) (hK : hg_kn E s) {T : List Cond} {args : Array Value} (hts : ∀ w ∈ T, w.before args s = true) (hin : ∀ w ∈ u_ws (hg_C c) (hg_Tb c) (hg_N c), w ∈ T) {cell : Cell} (q4 : ∀ x, x < hg_N c → cell.slots[E.2.1 c x]? = some (hg_fv E M k i c x)) (x : Nat) (hx : x < hg_N c) : (cell.setSlot (E.2.1 c j) v).slots[E.2.1 c x]? = some (if x = j then v else hg_fv E M k i c x) := by
  have hap := va_apart (own := "") (D := (E.1, E.2.1)) (ci := c) hts hin (hg_tt c) (hg_tt_ok c hc) (hg_nm c hc) hK.1 (hg_cls_at hc)
  have h := t_set (V := hg_fv E M k i c) q4 hap hj v x hx
  rw [h]
  simp [updV]
theorem hg_putX {idx c j k i : Nat} {v : Value} {M' : hg_M} (hd : hg_D Y pc pc' 3 (.putfield idx)) (hf : hg_FL Y.1.cls idx c j) (hk : hg_cl k = some c) (hfin : (hg_Tb c j).2.2.2 = false ∨ (Y.1.name = "<init>" ∧ (hg_Tb c j).2.2.2 = true ∧ (hg_Tb c j).1 = Y.1.cls)) (hn : narrow (hg_tt c j) v = v) (hfit : fits (hg_tt c j) v = true) (hi : i < hg_ct M k)
    (hX : M'.2.2.2 = M.2.2.2) (hs : ∀ k' i', ¬ (k' = k ∧ i' = i) → (∀ j, M'.1 k' i' j = M.1 k' i' j) ∧ (∀ j, M'.2.1 k' i' j = M.2.1 k' i' j) ∧ ∀ j, M'.2.2.1 k' i' j = M.2.2.1 k' i' j) (hv : ∀ x, hg_fv E M' k i c x = if x = j then v else hg_fv E M k i c x)
    (kk : hg_WP l E d Y mc ms pc' loc st M' Q) : hg_WP l E d Y mc ms pc loc (v :: .ref (hg_ad E k i) :: st) M Q := by
  intro p e R s m args below meth c0 H locs cells slots Z ls hF hK hR hP hS hL hz hret
  obtain ⟨hd, rfl⟩ := hd
  obtain ⟨hc, hj, hlink⟩ := hf
  have hOB := hP.obj hk hi
  obtain ⟨cell, q1, q2, q3, q4⟩ := id hOB
  obtain ⟨hSl, hfc, kC, hkC, hkind⟩ := hK.1.1 c _ (hg_cls_at hc)
  obtain ⟨cf, kf, fi, f, hif, hsl⟩ := hSl j hj
  have hlays := u_lays hF.2.2.2.2.1 (hg_lay hc) hj
  have hst := (u_facts hfc hkC hlays hif).1
  have hpd := hg_tt_ok c hc j hj
  have hlt : f.slot < cell.slots.size := by rw [hsl]; exact k2_hasslot (q4 j hj)
  have fin : ∀ H' : Heap, H'[hg_ad E k i]? = some (cell.setSlot f.slot v) → H'.size = H.size → (∀ q, q ≠ hg_ad E k i → H'[q]? = H[q]?) → W p l e R s m args below meth c0 H' (locs ++ [⟨hg_ad E k i, f.slot⟩]) cells slots Z (F0 m (pc + 3) ls st) := by
    intro H' e1 e2 e3
    have hA : hg_A E (hg_ad E k i) := Nat.le_add_right _ _
    refine kk p e R s m args below meth c0 H' _ cells slots Z ls hF hK hR (hP.upd e2 e3 hi hX hs ?_) (hS.put e2 e3 hA) hL hz hret
    unfold hg_cell
    rw [hk]
    refine ⟨_, e1, q2, q3, fun x hx => ?_⟩
    rw [hsl, hg_fput hc hj hK hF.2.2.2.2.1 (hg_lay hc) q4 x hx, hv x]
  rcases hfin with hfin | ⟨hin, hfin, hdecl⟩
  · have hlay := hF.ts (hg_lay hc _ (u_in_lay hj))
    unfold u_lay at hlay
    rw [if_neg (by rw [hfin]; decide)] at hlay
    have h6 := u_store hfc hkC hkind hlay hif hpd hn hfit
    exact W.putK hF.1 hF.2.1 (f := f) ⟨hF.2.2.2.1, hF.ts hlink, ⟨_, _, _, hif⟩, hst⟩ (by rw [q2]; exact h6) q1 q3 hlt rfl rfl hd fin
  · have hlay := hF.ts (hg_lay hc _ (u_in_lay hj))
    unfold u_lay at hlay
    rw [if_pos hfin] at hlay
    have hcf : m.cls = cf := by
      obtain ⟨_, _, c', _, _, _, -, -, hf', -, -, -, hown2, -⟩ := Cond.laysFinal_spec hlay
      have e1 : c' = cf := by have := hif.symm.trans hf'; simp at this; exact this.1.symm
      rw [hdecl] at hown2
      rw [← e1]; exact Option.some.inj (hF.2.2.2.1.symm.trans hown2)
    have h6 := u_fits hfc hkC hkind (Or.inr hlay) hif hpd hn hfit
    exact W.putFinK hF.1 hF.2.1 hF.2.2.2.1 (hF.ts hlink) hif hst hcf (hF.2.2.2.2.2 hin) (by rw [q2]; exact h6) q1 q3 hlt rfl rfl hd fin
theorem hg_putI {idx ci j k i : Nat} {x : Int32} (hd : hg_D Y pc pc' 3 (.putfield idx)) (hf : hg_FL Y.1.cls idx ci j) (hk : hg_cl k = some ci) (hj : hg_isR (hg_tt ci j) = false) (hfin : (hg_Tb ci j).2.2.2 = false ∨ (Y.1.name = "<init>" ∧ (hg_Tb ci j).2.2.2 = true ∧ (hg_Tb ci j).1 = Y.1.cls)) (hn : narrow (hg_tt ci j) (.int x) = .int x) (hfit : fits (hg_tt ci j) (.int x) = true) (hi : i < X.2.1 k) (kk : hg_WP l E d Y mc ms pc' loc st (hg_u3 I k i j x, Lg, Rf, X) Q) : hg_WP l E d Y mc ms pc loc (.int x :: .ref (hg_ad E k i) :: st) (I, Lg, Rf, X) Q := by
  refine hg_putX (M' := (hg_u3 I k i j x, Lg, Rf, X)) hd hf hk hfin hn hfit hi rfl (fun k' i' h => ⟨fun j' => hg_u3k h, fun _ => rfl, fun _ => rfl⟩) (fun y => ?_) kk
  by_cases hy : y = j
  · subst hy; simp [hg_fv, hj, hg_u3]
  · rw [if_neg hy]; simp [hg_fv, hg_u3, hy]
theorem hg_putR {idx ci j k i k' i' : Nat} (hd : hg_D Y pc pc' 3 (.putfield idx)) (hf : hg_FL Y.1.cls idx ci j) (hk : hg_cl k = some ci) (hj : hg_isR (hg_tt ci j) = true) (hfin : (hg_Tb ci j).2.2.2 = false ∨ (Y.1.name = "<init>" ∧ (hg_Tb ci j).2.2.2 = true ∧ (hg_Tb ci j).1 = Y.1.cls)) (hn : ∀ a, narrow (hg_tt ci j) (.ref a) = .ref a) (hfit : ∀ a, fits (hg_tt ci j) (.ref a) = true) (hi : i < X.2.1 k) (kk : hg_WP l E d Y mc ms pc' loc st (I, Lg, hg_u3 Rf k i j (some (k', i')), X) Q) : hg_WP l E d Y mc ms pc loc (.ref (hg_ad E k' i') :: .ref (hg_ad E k i) :: st) (I, Lg, Rf, X) Q := by
  refine hg_putX (M' := (I, Lg, hg_u3 Rf k i j (some (k', i')), X)) hd hf hk hfin (hn _) (hfit _) hi rfl (fun k' i' h => ⟨fun _ => rfl, fun _ => rfl, fun j' => hg_u3k h⟩) (fun y => ?_) kk
  by_cases hy : y = j
  · subst hy; simp [hg_fv, hj, hg_u3, hg_rv]
  · rw [if_neg hy]; simp [hg_fv, hg_u3, hy]
theorem hg_astX {k i j : Nat} {v : Value} {M' : hg_M} {H H1 : Heap} (hP : hg_rep E M H) (hk : hg_cl k = none) (hi : i < hg_ct M k) (hX : M'.2.2.2 = M.2.2.2) (hs : ∀ k' i', ¬ (k' = k ∧ i' = i) → (∀ j, M'.1 k' i' j = M.1 k' i' j) ∧ (∀ j, M'.2.1 k' i' j = M.2.1 k' i' j) ∧ ∀ j, M'.2.2.1 k' i' j = M.2.2.1 k' i' j) (hv : ∀ x, hg_av E M' k i x = if x = j then v else hg_av E M k i x)
    (e : H1[hg_ad E k i]? = some ((arrV (hg_cA E (hg_ty k)) (hg_ln M k i) (hg_av E M k i)).setSlot j v)) (z : H1.size = H.size) (oq : ∀ q, q ≠ hg_ad E k i → H1[q]? = H[q]?) : hg_rep E M' H1 := by
  refine hP.upd z oq hi hX hs ?_
  unfold hg_cell
  rw [hk]
  show H1[_]? = some (arrV _ (M'.2.2.2.2.2 k i) _)
  rw [e, arrV_store, hX]
  congr 2
  funext x
  rw [hv x]
  rfl
/-- a cell's content by its own row's type -/
theorem hg_ineq {j n : Nat} {i : Int32} {cA : ClassId} {f : Nat → Value} (h : vp_in i n) : ¬ (i < 0 ∨ (arrV cA n f).slots.size ≤ i.toNatClampNeg) := by rw [arrV_size]; exact h
theorem hg_inlt {n : Nat} {i : Int32} (h : vp_in i n) : i.toNatClampNeg < n := Nat.not_le.mp fun q => h (Or.inr q)
theorem hg_iald {k i : Nat} {x : Int32} (hd : hg_D Y pc pc' 1 .iaload) (hk : hg_cl k = none) (hy : hg_ty k = 0) (hi : i < X.2.1 k) (hx : vp_in x (X.2.2 k i)) (kk : hg_WP l E d Y mc ms pc' loc (.int (I k i x.toNatClampNeg) :: st) (I, Lg, Rf, X) Q) : hg_WP l E d Y mc ms pc loc (.int x :: .ref (hg_ad E k i) :: st) (I, Lg, Rf, X) Q := by
  intro p e R s m args below meth c H locs cells slots Z ls hF hK hR hP hS hL hz hret
  obtain ⟨hd, rfl⟩ := hd
  have ha := hg_arrof (k := k) (n := hg_ln (I, Lg, Rf, X) k i) (f := hg_av E (I, Lg, Rf, X) k i) hK
  rw [hy] at ha
  have hc := hP.arr hk hi
  rw [hy] at hc
  refine W.iald (v := .int (I k i x.toNatClampNeg)) hF.1 hF.2.1 hc ha (fun q => by cases q) (hg_ineq (j := 0) hx) ?_ rfl rfl hd (kk p e R s m args below meth c H locs cells slots Z ls hF hK hR hP hS hL hz hret)
  rw [arrV_read _ _ (hg_inlt hx)]
  simp [hg_av, hy]
theorem hg_bald {k i : Nat} {x : Int32} (hd : hg_D Y pc pc' 1 .baload) (hk : hg_cl k = none) (hy : hg_ty k = 1) (hi : i < X.2.1 k) (hx : vp_in x (X.2.2 k i)) (kk : hg_WP l E d Y mc ms pc' loc (.int (I k i x.toNatClampNeg) :: st) (I, Lg, Rf, X) Q) : hg_WP l E d Y mc ms pc loc (.int x :: .ref (hg_ad E k i) :: st) (I, Lg, Rf, X) Q := by
  intro p e R s m args below meth c H locs cells slots Z ls hF hK hR hP hS hL hz hret
  obtain ⟨hd, rfl⟩ := hd
  have ha := hg_arrof (k := k) (n := hg_ln (I, Lg, Rf, X) k i) (f := hg_av E (I, Lg, Rf, X) k i) hK
  rw [hy] at ha
  have hc := hP.arr hk hi
  rw [hy] at hc
  refine W.bald (v := .int (I k i x.toNatClampNeg)) hF.1 hF.2.1 hc ha (fun q => by cases q) (hg_ineq (j := 0) hx) ?_ rfl rfl hd (kk p e R s m args below meth c H locs cells slots Z ls hF hK hR hP hS hL hz hret)
  rw [arrV_read _ _ (hg_inlt hx)]
  simp [hg_av, hy]
theorem hg_zald {k i : Nat} {x : Int32} (hd : hg_D Y pc pc' 1 .baload) (hk : hg_cl k = none) (hy : hg_ty k = 2) (hi : i < X.2.1 k) (hx : vp_in x (X.2.2 k i)) (kk : hg_WP l E d Y mc ms pc' loc (.int (I k i x.toNatClampNeg) :: st) (I, Lg, Rf, X) Q) : hg_WP l E d Y mc ms pc loc (.int x :: .ref (hg_ad E k i) :: st) (I, Lg, Rf, X) Q := by
  intro p e R s m args below meth c H locs cells slots Z ls hF hK hR hP hS hL hz hret
  obtain ⟨hd, rfl⟩ := hd
  have ha := hg_arrof (k := k) (n := hg_ln (I, Lg, Rf, X) k i) (f := hg_av E (I, Lg, Rf, X) k i) hK
  rw [hy] at ha
  have hc := hP.arr hk hi
  rw [hy] at hc
  refine W.zald (v := .int (I k i x.toNatClampNeg)) hF.1 hF.2.1 hc ha (fun q => by cases q) (hg_ineq (j := 0) hx) ?_ rfl rfl hd (kk p e R s m args below meth c H locs cells slots Z ls hF hK hR hP hS hL hz hret)
  rw [arrV_read _ _ (hg_inlt hx)]
  simp [hg_av, hy]
theorem hg_lald {k i : Nat} {x : Int32} (hd : hg_D Y pc pc' 1 .laload) (hk : hg_cl k = none) (hy : hg_ty k = 3) (hi : i < X.2.1 k) (hx : vp_in x (X.2.2 k i)) (kk : hg_WP l E d Y mc ms pc' loc (.long (Lg k i x.toNatClampNeg) :: st) (I, Lg, Rf, X) Q) : hg_WP l E d Y mc ms pc loc (.int x :: .ref (hg_ad E k i) :: st) (I, Lg, Rf, X) Q := by
  intro p e R s m args below meth c H locs cells slots Z ls hF hK hR hP hS hL hz hret
  obtain ⟨hd, rfl⟩ := hd
  have ha := hg_arrof (k := k) (n := hg_ln (I, Lg, Rf, X) k i) (f := hg_av E (I, Lg, Rf, X) k i) hK
  rw [hy] at ha
  have hc := hP.arr hk hi
  rw [hy] at hc
  refine W.lald (v := .long (Lg k i x.toNatClampNeg)) hF.1 hF.2.1 hc ha (fun q => by cases q) (hg_ineq (j := 0) hx) ?_ rfl rfl hd (kk p e R s m args below meth c H locs cells slots Z ls hF hK hR hP hS hL hz hret)
  rw [arrV_read _ _ (hg_inlt hx)]
  simp [hg_av, hy]
theorem hg_aald {k i k' i' : Nat} {x : Int32} (hd : hg_D Y pc pc' 1 .aaload) (hk : hg_cl k = none) (hy : 4 ≤ hg_ty k) (hi : i < X.2.1 k) (hx : vp_in x (X.2.2 k i)) (hr : Rf k i x.toNatClampNeg = some (k', i')) (kk : hg_WP l E d Y mc ms pc' loc (.ref (hg_ad E k' i') :: st) (I, Lg, Rf, X) Q) : hg_WP l E d Y mc ms pc loc (.int x :: .ref (hg_ad E k i) :: st) (I, Lg, Rf, X) Q := by
  intro p e R s m args below meth c H locs cells slots Z ls hF hK hR hP hS hL hz hret
  obtain ⟨hd, rfl⟩ := hd
  have ha := hg_arrof (k := k) (n := hg_ln (I, Lg, Rf, X) k i) (f := hg_av E (I, Lg, Rf, X) k i) hK
  have hc := hP.arr hk hi
  refine W.aald (v := .ref (hg_ad E k' i')) hF.1 hF.2.1 hc ha ?_ (fun q => by cases q) (hg_ineq (j := 0) hx) ?_ rfl rfl hd (kk p e R s m args below meth c H locs cells slots Z ls hF hK hR hP hS hL hz hret)
  · have h6 := hg_ty6 k
    rcases (show hg_ty k = 4 ∨ hg_ty k = 5 by omega) with q | q <;> rw [q] <;> rfl
  · rw [arrV_read _ _ (hg_inlt hx)]
    have h1 : ¬ hg_ty k ≤ 2 := by omega
    have h2 : ¬ hg_ty k = 3 := by omega
    simp [hg_av, h1, h2, hr, hg_rv]
/-- a row that lies outside -/
theorem hg_extT {s : State} {H : Heap} {locs : List Loc} {ty : FieldType} {t N : Nat} {f : Nat → Value} (h : va_T ty t N f (hg_A E) s s.heap) (hS : va_S (hg_A E) s.heap H locs) : va_T ty t N f (hg_A E) s H := h.kept (fun a h1 h2 => hS.2.1 a h1 h2)
theorem hg_ialdT {t N : Nat} {f : Nat → Int32} {x : Int32} (hd : hg_D Y pc pc' 1 .iaload) (hT : ∀ s, hg_kn E s → va_T .int t N (fun j => .int (f j)) (hg_A E) s s.heap) (hx : vp_in x N) (kk : hg_WP l E d Y mc ms pc' loc (.int (f x.toNatClampNeg) :: st) M Q) : hg_WP l E d Y mc ms pc loc (.int x :: .ref t :: st) M Q := by
  intro p e R s m args below meth c H locs cells slots Z ls hF hK hR hP hS hL hz hret
  obtain ⟨hd, rfl⟩ := hd
  obtain ⟨cell, h1, h2, h3, h4, h5, h6, h7⟩ := hg_extT (hT s hK) hS
  exact W.iald (v := .int (f x.toNatClampNeg)) hF.1 hF.2.1 h1 h2 h3 (fun q => hx (q.imp id (fun q => Nat.le_trans h4 q))) (h6 _ (hg_inlt hx)) rfl rfl hd (kk p e R s m args below meth c H locs cells slots Z ls hF hK hR hP hS hL hz hret)
theorem hg_baldT {t N : Nat} {f : Nat → Int32} {x : Int32} (hd : hg_D Y pc pc' 1 .baload) (hT : ∀ s, hg_kn E s → va_T .byte t N (fun j => .int (f j)) (hg_A E) s s.heap) (hx : vp_in x N) (kk : hg_WP l E d Y mc ms pc' loc (.int (f x.toNatClampNeg) :: st) M Q) : hg_WP l E d Y mc ms pc loc (.int x :: .ref t :: st) M Q := by
  intro p e R s m args below meth c H locs cells slots Z ls hF hK hR hP hS hL hz hret
  obtain ⟨hd, rfl⟩ := hd
  obtain ⟨cell, h1, h2, h3, h4, h5, h6, h7⟩ := hg_extT (hT s hK) hS
  exact W.bald (v := .int (f x.toNatClampNeg)) hF.1 hF.2.1 h1 h2 h3 (fun q => hx (q.imp id (fun q => Nat.le_trans h4 q))) (h6 _ (hg_inlt hx)) rfl rfl hd (kk p e R s m args below meth c H locs cells slots Z ls hF hK hR hP hS hL hz hret)
theorem hg_alenT {t N : Nat} {ty : FieldType} {f : Nat → Value} (hd : hg_D Y pc pc' 1 .arraylength) (hT : ∀ s, hg_kn E s → va_T ty t N f (hg_A E) s s.heap) (kk : hg_WP l E d Y mc ms pc' loc (.int (Int32.ofNat N) :: st) M Q) : hg_WP l E d Y mc ms pc loc (.ref t :: st) M Q := by
  intro p e R s m args below meth c H locs cells slots Z ls hF hK hR hP hS hL hz hret
  obtain ⟨hd, rfl⟩ := hd
  obtain ⟨cell, h1, h2, h3, h4, h5, h6, h7⟩ := hg_extT (hT s hK) hS
  exact W.alen (n := Int32.ofNat N) hF.1 hF.2.1 h1 h2 h5 rfl rfl hd (kk p e R s m args below meth c H locs cells slots Z ls hF hK hR hP hS hL hz hret)
theorem hg_alen {k i : Nat} (hd : hg_D Y pc pc' 1 .arraylength) (hk : hg_cl k = none) (hi : i < X.2.1 k) (kk : hg_WP l E d Y mc ms pc' loc (.int (nI (X.2.2 k i)) :: st) (I, Lg, Rf, X) Q) : hg_WP l E d Y mc ms pc loc (.ref (hg_ad E k i) :: st) (I, Lg, Rf, X) Q := by
  intro p e R s m args below meth c H locs cells slots Z ls hF hK hR hP hS hL hz hret
  obtain ⟨hd, rfl⟩ := hd
  have ha := hg_arrof (k := k) (n := hg_ln (I, Lg, Rf, X) k i) (f := hg_av E (I, Lg, Rf, X) k i) hK
  exact W.alen (n := nI (X.2.2 k i)) hF.1 hF.2.1 (hP.arr hk hi) ha (by rw [arrV_size]; rfl) rfl rfl hd (kk p e R s m args below meth c H locs cells slots Z ls hF hK hR hP hS hL hz hret)
theorem hg_iast {k i : Nat} {x : Int32} {y : Int32} (hd : hg_D Y pc pc' 1 .iastore) (hk : hg_cl k = none) (hy : hg_ty k = 0) (hi : i < X.2.1 k) (hx : vp_in x (X.2.2 k i)) (kk : hg_WP l E d Y mc ms pc' loc st (hg_u3 I k i x.toNatClampNeg y, Lg, Rf, X) Q) : hg_WP l E d Y mc ms pc loc (.int y :: .int x :: .ref (hg_ad E k i) :: st) (I, Lg, Rf, X) Q := by
  intro p e R s m args below meth c H locs cells slots Z ls hF hK hR hP hS hL hz hret
  obtain ⟨hd, rfl⟩ := hd
  have ha := hg_arrof (k := k) (n := hg_ln (I, Lg, Rf, X) k i) (f := hg_av E (I, Lg, Rf, X) k i) hK
  have hc := hP.arr hk hi
  rw [hy] at ha hc
  refine W.iast hF.1 hF.2.1 hc ha (fun q => by cases q) (hg_ineq (j := 0) hx) rfl rfl hd fun H1 e1 z1 oq => ?_
  have hA : hg_A E (hg_ad E k i) := Nat.le_add_right _ _
  refine kk p e R s m args below meth c H1 _ cells slots Z ls hF hK hR ?_ (hS.put z1 oq hA) hL hz hret
  refine hg_astX (M' := (hg_u3 I k i x.toNatClampNeg y, Lg, Rf, X)) (j := x.toNatClampNeg) (v := .int y) hP hk hi rfl (fun k' i' h => ⟨fun j' => hg_u3k h, fun _ => rfl, fun _ => rfl⟩) (fun q => ?_) (by rw [hy]; exact e1) z1 oq
  by_cases hq : q = x.toNatClampNeg
  · subst hq; simp [hg_av, hy, hg_u3]
  · rw [if_neg hq]; simp [hg_av, hy, hg_u3, hq]
theorem hg_bast {k i : Nat} {x : Int32} {y : Int32} (hd : hg_D Y pc pc' 1 .bastore) (hk : hg_cl k = none) (hy : hg_ty k = 1) (hi : i < X.2.1 k) (hx : vp_in x (X.2.2 k i)) (kk : hg_WP l E d Y mc ms pc' loc st (hg_u3 I k i x.toNatClampNeg y.toInt8.toInt32, Lg, Rf, X) Q) : hg_WP l E d Y mc ms pc loc (.int y :: .int x :: .ref (hg_ad E k i) :: st) (I, Lg, Rf, X) Q := by
  intro p e R s m args below meth c H locs cells slots Z ls hF hK hR hP hS hL hz hret
  obtain ⟨hd, rfl⟩ := hd
  have ha := hg_arrof (k := k) (n := hg_ln (I, Lg, Rf, X) k i) (f := hg_av E (I, Lg, Rf, X) k i) hK
  have hc := hP.arr hk hi
  rw [hy] at ha hc
  refine W.bast hF.1 hF.2.1 hc ha (fun q => by cases q) (hg_ineq (j := 0) hx) rfl rfl hd fun H1 e1 z1 oq => ?_
  have hA : hg_A E (hg_ad E k i) := Nat.le_add_right _ _
  refine kk p e R s m args below meth c H1 _ cells slots Z ls hF hK hR ?_ (hS.put z1 oq hA) hL hz hret
  refine hg_astX (M' := (hg_u3 I k i x.toNatClampNeg y.toInt8.toInt32, Lg, Rf, X)) (j := x.toNatClampNeg) (v := .int y.toInt8.toInt32) hP hk hi rfl (fun k' i' h => ⟨fun j' => hg_u3k h, fun _ => rfl, fun _ => rfl⟩) (fun q => ?_) (by rw [hy]; exact e1) z1 oq
  by_cases hq : q = x.toNatClampNeg
  · subst hq; simp [hg_av, hy, hg_u3]
  · rw [if_neg hq]; simp [hg_av, hy, hg_u3, hq]
theorem hg_zast {k i : Nat} {x : Int32} {y : Int32} (hd : hg_D Y pc pc' 1 .bastore) (hk : hg_cl k = none) (hy : hg_ty k = 2) (hi : i < X.2.1 k) (hx : vp_in x (X.2.2 k i)) (kk : hg_WP l E d Y mc ms pc' loc st (hg_u3 I k i x.toNatClampNeg (vp_nar .boolean y), Lg, Rf, X) Q) : hg_WP l E d Y mc ms pc loc (.int y :: .int x :: .ref (hg_ad E k i) :: st) (I, Lg, Rf, X) Q := by
  intro p e R s m args below meth c H locs cells slots Z ls hF hK hR hP hS hL hz hret
  obtain ⟨hd, rfl⟩ := hd
  have ha := hg_arrof (k := k) (n := hg_ln (I, Lg, Rf, X) k i) (f := hg_av E (I, Lg, Rf, X) k i) hK
  have hc := hP.arr hk hi
  rw [hy] at ha hc
  refine W.zast hF.1 hF.2.1 hc ha (fun q => by cases q) (hg_ineq (j := 0) hx) rfl rfl hd fun H1 e1 z1 oq => ?_
  have hA : hg_A E (hg_ad E k i) := Nat.le_add_right _ _
  refine kk p e R s m args below meth c H1 _ cells slots Z ls hF hK hR ?_ (hS.put z1 oq hA) hL hz hret
  refine hg_astX (M' := (hg_u3 I k i x.toNatClampNeg (vp_nar .boolean y), Lg, Rf, X)) (j := x.toNatClampNeg) (v := .int (vp_nar .boolean y)) hP hk hi rfl (fun k' i' h => ⟨fun j' => hg_u3k h, fun _ => rfl, fun _ => rfl⟩) (fun q => ?_) (by rw [hy]; exact e1) z1 oq
  by_cases hq : q = x.toNatClampNeg
  · subst hq; simp [hg_av, hy, hg_u3]
  · rw [if_neg hq]; simp [hg_av, hy, hg_u3, hq]
theorem hg_last {k i : Nat} {x : Int32} {y : Int64} (hd : hg_D Y pc pc' 1 .lastore) (hk : hg_cl k = none) (hy : hg_ty k = 3) (hi : i < X.2.1 k) (hx : vp_in x (X.2.2 k i)) (kk : hg_WP l E d Y mc ms pc' loc st (I, hg_u3 Lg k i x.toNatClampNeg y, Rf, X) Q) : hg_WP l E d Y mc ms pc loc (.long y :: .int x :: .ref (hg_ad E k i) :: st) (I, Lg, Rf, X) Q := by
  intro p e R s m args below meth c H locs cells slots Z ls hF hK hR hP hS hL hz hret
  obtain ⟨hd, rfl⟩ := hd
  have ha := hg_arrof (k := k) (n := hg_ln (I, Lg, Rf, X) k i) (f := hg_av E (I, Lg, Rf, X) k i) hK
  have hc := hP.arr hk hi
  rw [hy] at ha hc
  refine W.last hF.1 hF.2.1 hc ha (fun q => by cases q) (hg_ineq (j := 0) hx) rfl rfl hd fun H1 e1 z1 oq => ?_
  have hA : hg_A E (hg_ad E k i) := Nat.le_add_right _ _
  refine kk p e R s m args below meth c H1 _ cells slots Z ls hF hK hR ?_ (hS.put z1 oq hA) hL hz hret
  refine hg_astX (M' := (I, hg_u3 Lg k i x.toNatClampNeg y, Rf, X)) (j := x.toNatClampNeg) (v := .long y) hP hk hi rfl (fun k' i' h => ⟨fun _ => rfl, fun j' => hg_u3k h, fun _ => rfl⟩) (fun q => ?_) (by rw [hy]; exact e1) z1 oq
  by_cases hq : q = x.toNatClampNeg
  · subst hq; simp [hg_av, hy, hg_u3]
  · rw [if_neg hq]; simp [hg_av, hy, hg_u3, hq]
theorem hg_ra {s : State} {t : Nat} {C : String} (hK : hg_kn E s) (h : (t = 4 ∧ C = "HangmanDinner$House") ∨ (t = 5 ∧ C = "HangmanDinner$Tape")) : hg_fty t = .object C ∧ ∃ (kA : Class) (comp : ClassId), s.vm.classes[hg_cA E t]? = some kA ∧ kA.kind = .array comp (.object C) ∧ s.vm.findClass C = some comp ∧ s.vm.findClass ("[" ++ (FieldType.object C).toString) = some (hg_cA E t) := by
  rcases h with ⟨rfl, rfl⟩ | ⟨rfl, rfl⟩
  · exact ⟨rfl, (hK.1.2 4 _ (hg_tys_at E (t := 4) (by decide))).2⟩
  · exact ⟨rfl, (hK.1.2 5 _ (hg_tys_at E (t := 5) (by decide))).2⟩
theorem hg_aast {k i k' i' c : Nat} {x : Int32} (hd : hg_D Y pc pc' 1 .aastore) (hk : hg_cl k = none) (hy : (hg_ty k = 4 ∧ c = 0) ∨ (hg_ty k = 5 ∧ c = 5)) (hi : i < X.2.1 k) (hx : vp_in x (X.2.2 k i)) (hk' : hg_cl k' = some c) (hi' : i' < X.2.1 k') (kk : hg_WP l E d Y mc ms pc' loc st (I, Lg, hg_u3 Rf k i x.toNatClampNeg (some (k', i')), X) Q) : hg_WP l E d Y mc ms pc loc (.ref (hg_ad E k' i') :: .int x :: .ref (hg_ad E k i) :: st) (I, Lg, Rf, X) Q := by
  intro p e R s m args below meth c0 H locs cells slots Z ls hF hK hR hP hS hL hz hret
  obtain ⟨hd, rfl⟩ := hd
  have hc := hP.arr hk hi
  obtain ⟨cellV, g1, g2, g3, -⟩ := hP.obj hk' hi'
  have hcls := (hK.1.1 c _ (hg_cls_at (hg_cl9 _ _ hk'))).2
  have hR2 : ∃ (kA : Class), s.vm.classes[hg_cA E (hg_ty k)]? = some kA ∧ kA.kind = .array (E.1 c) (hg_fty (hg_ty k)) ∧ (hg_fty (hg_ty k)).isReference = true := by
    have hC : (hg_ty k = 4 ∧ hg_C c = "HangmanDinner$House") ∨ (hg_ty k = 5 ∧ hg_C c = "HangmanDinner$Tape") := by
      rcases hy with ⟨hy, rfl⟩ | ⟨hy, rfl⟩
      · exact Or.inl ⟨hy, rfl⟩
      · exact Or.inr ⟨hy, rfl⟩
    obtain ⟨k0, kA, comp, k1, k2, k3, -⟩ := hg_ra hK hC
    have hcomp : comp = E.1 c := Option.some.inj (k3.symm.trans hcls.1)
    subst hcomp
    exact ⟨kA, k1, by rw [k0]; exact k2, by rw [k0]; rfl⟩
  obtain ⟨kA, k1, k2, k3⟩ := hR2
  obtain ⟨kC, hkC, -⟩ := hcls.2
  have h4 : ¬ hg_ty k ≤ 2 ∧ ¬ hg_ty k = 3 := by rcases hy with ⟨hy, -⟩ | ⟨hy, -⟩ <;> omega
  refine W.aast hF.1 hF.2.1 hc (fun q h => by cases h) (fun h => by cases h) k1 k2 k3 hkC ⟨fun q => hx (Or.inl q), by rw [arrV_size]; exact hg_inlt hx⟩ g1 (fun q h => by rw [g3] at h; cases h) (by rw [g2]; exact hkC) (by rw [g2]; exact va_assign hcls) rfl rfl hd fun H1 e1 z1 oq => ?_
  have hA : hg_A E (hg_ad E k i) := Nat.le_add_right _ _
  refine kk p e R s m args below meth c0 H1 _ cells slots Z ls hF hK hR ?_ (hS.put z1 oq hA) hL hz hret
  refine hg_astX (M' := (I, Lg, hg_u3 Rf k i x.toNatClampNeg (some (k', i')), X)) (j := x.toNatClampNeg) (v := .ref (hg_ad E k' i')) hP hk hi rfl (fun k' i' h => ⟨fun _ => rfl, fun _ => rfl, fun j' => hg_u3k h⟩) (fun q => ?_) e1 z1 oq
  by_cases hq : q = x.toNatClampNeg
  · subst hq; simp [hg_av, h4, hg_u3, hg_rv]
  · rw [if_neg hq]; simp [hg_av, h4, hg_u3, hq]
-- what is made
def hg_up {α : Type} (f : Nat → α) (k : Nat) (x : α) : Nat → α := fun k' => if k' = k then x else f k'
def hg_up2 {α : Type} (f : Nat → Nat → α) (k i : Nat) (x : α) : Nat → Nat → α := fun k' i' => if k' = k ∧ i' = i then x else f k' i'
theorem hg_rep.push {H H1 : Heap} {k n : Nat} (h : hg_rep E (I, Lg, Rf, X) H) (hq : hg_sq k (X.2.1 k) = X.1) (hcap : X.2.1 k < hg_cap k) (hz : H1.size = H.size + 1) (oq : ∀ q, q < H.size → H1[q]? = H[q]?) {X' : Nat × (Nat → Nat) × (Nat → Nat → Nat)} (hX : X' = (X.1 + 1, hg_up X.2.1 k (X.2.1 k + 1), hg_up2 X.2.2 k (X.2.1 k) n)) (hc : hg_cell E (hg_z3 I k (X.2.1 k) 0, hg_z3 Lg k (X.2.1 k) 0, hg_z3 Rf k (X.2.1 k) none, X') k (X.2.1 k) H1) : hg_rep E (hg_z3 I k (X.2.1 k) 0, hg_z3 Lg k (X.2.1 k) 0, hg_z3 Rf k (X.2.1 k) none, X') H1 := by
  subst hX
  obtain ⟨h1, h2, h3⟩ := id h
  refine ⟨by rw [hz, h1]; exact Nat.add_assoc _ _ _, fun k' => ?_, fun k' i' hi' => ?_⟩
  · show (if k' = k then X.2.1 k + 1 else X.2.1 k') ≤ hg_cap k'
    by_cases e : k' = k
    · subst e; rw [if_pos rfl]; exact hcap
    · rw [if_neg e]; exact h2 k'
  · have hi' : i' < (if k' = k then X.2.1 k + 1 else X.2.1 k') := hi'
    by_cases e : k' = k ∧ i' = X.2.1 k
    · obtain ⟨rfl, rfl⟩ := e; exact hc
    · have hi2 : i' < X.2.1 k' := by
        by_cases e2 : k' = k
        · subst e2
          rw [if_pos rfl] at hi'
          have : ¬ i' = X.2.1 k' := fun z => e ⟨rfl, z⟩
          omega
        · rw [if_neg e2] at hi'; exact hi'
      have hn : ∀ {α : Type} (f : Nat → Nat → Nat → α) (x : α) (j : Nat), hg_z3 f k (X.2.1 k) x k' i' j = f k' i' j := fun f x j => by unfold hg_z3; rw [if_neg e]
      refine ((h3 k' i' hi2).kept (oq _ (h.lt hi2))).congr (fun j => hn I 0 j) (fun j => hn Lg 0 j) (fun j => hn Rf none j) ?_
      show (if k' = k ∧ i' = X.2.1 k then n else X.2.2 k' i') = X.2.2 k' i'
      rw [if_neg e]
theorem hg_S_push {A : Nat → Prop} {H0 H H1 : Heap} {locs : List Loc} (h : va_S A H0 H locs) (hz : H1.size = H.size + 1) (oq : ∀ q, q < H.size → H1[q]? = H[q]?) : va_S A H0 H1 locs := ⟨Nat.le_trans h.1 (by omega), fun q h1 h2 => (oq q (Nat.lt_of_lt_of_le h1 h.1)).trans (h.2.1 q h1 h2), h.2.2⟩
theorem hg_up2_same {f : Nat → Nat → Nat} {k i : Nat} : hg_up2 f k i (f k i) = f := by
  funext k' i'
  unfold hg_up2
  by_cases h : k' = k ∧ i' = i
  · obtain ⟨rfl, rfl⟩ := h; rw [if_pos ⟨rfl, rfl⟩]
  · rw [if_neg h]
theorem hg_dflt {E : hg_E} : ∀ c, c < 9 → ∀ j, j < hg_N c → defaultValue (hg_tt c j) = if hg_isR (hg_tt c j) = true then hg_rv E none else Value.int 0 := by
  intro c hc j hj
  have h : ∀ c, c < 9 → ∀ j, j < hg_N c → defaultValue (hg_tt c j) = if hg_isR (hg_tt c j) = true then Value.null else Value.int 0 := by decide +kernel
  exact h c hc j hj
theorem hg_new {idx ci k : Nat} (hd : hg_D Y pc pc' 3 (.new idx)) (hn : hg_CN Y.1.cls idx ci) (hk : hg_cl k = some ci) (hq : hg_sq k (X.2.1 k) = X.1) (hcap : X.2.1 k < hg_cap k) (hm : 1 ≤ mc) (hs : hg_N ci ≤ ms) (kk : hg_WP l E d Y (mc - 1) (ms - hg_N ci) pc' loc (.ref (hg_ad E k (X.2.1 k)) :: st) (hg_z3 I k (X.2.1 k) 0, hg_z3 Lg k (X.2.1 k) 0, hg_z3 Rf k (X.2.1 k) none, (X.1 + 1, hg_up X.2.1 k (X.2.1 k + 1), X.2.2)) Q) : hg_WP l E d Y mc ms pc loc st (I, Lg, Rf, X) Q := by
  intro p e R s m args below meth c0 H locs cells slots Z ls hF hK hR hP hS hL hz hret
  obtain ⟨hd, rfl⟩ := hd
  have hKn := hK.1.1 ci _ (hg_cls_at hn.1)
  have ha : hg_ad E k (X.2.1 k) = H.size := by rw [hP.1]; show _ + hg_sq _ _ = _; rw [hq]
  rw [ha] at kk
  refine W.newcK hF.1 hF.2.1 hF.2.2.2.1 (hF.ts hn.2.1) (hF.ts hn.2.2.1) (hF.ts hn.2.2.2) rfl hd (by omega) (by omega) hKn.2.1 rfl fun H1 kC hkC e1 z1 o1 => ?_
  refine kk p e R s m args below meth c0 H1 locs (cells + 1) (slots + hg_N ci) Z ls hF hK ⟨hR.1, hR.2.1, by omega, by omega⟩ (hP.push hq hcap z1 o1 (n := X.2.2 k (X.2.1 k)) (by rw [hg_up2_same]) ?_) (hg_S_push hS z1 o1) hL hz (fun pc ls H locs c' s' r M' h1 h2 h3 h4 h5 h6 => hret pc ls H locs c' s' r M' h1 h2 h3 h4 (by omega) (by omega))
  unfold hg_cell
  rw [hk]
  show t_OB (hg_ad E k (X.2.1 k)) _ _ _ _ _
  rw [ha]
  refine (u_born (hg_tt ci) hF.2.2.2.2.1 (hg_lay hn.1) hKn hkC e1 (hg_tt_ok ci hn.1)).to (fun j hj => ?_)
  unfold hg_fv
  show _ = if _ then hg_rv E (hg_z3 Rf k (X.2.1 k) none k (X.2.1 k) j) else .int (hg_z3 I k (X.2.1 k) 0 k (X.2.1 k) j)
  rw [show hg_z3 Rf k (X.2.1 k) none k (X.2.1 k) j = none by simp [hg_z3], show hg_z3 I k (X.2.1 k) 0 k (X.2.1 k) j = 0 by simp [hg_z3]]
  exact hg_dflt ci hn.1 j hj
theorem hg_arrT {s : State} {t : Nat} {cA : ClassId} (hK : hg_kn E s) (ht : t < 4) (h : s.vm.findClass ("[" ++ (hg_fty t).toString) = some cA) : cA = hg_cA E t := by
  have h2 := (hK.1.2 _ _ (hg_tys_at E (show t < 6 by omega))).2
  match t, ht with
  | 0, _ => exact Option.some.inj (h.symm.trans h2)
  | 1, _ => exact Option.some.inj (h.symm.trans h2)
  | 2, _ => exact Option.some.inj (h.symm.trans h2)
  | 3, _ => exact Option.some.inj (h.symm.trans h2)
theorem hg_newa {k N : Nat} {n : Int32} {at_ : ArrayType} (hd : hg_D Y pc pc' 2 (.newarray at_)) (hk : hg_cl k = none) (hty : newarray.typeOf at_ = hg_fty (hg_ty k)) (ht : hg_ty k < 4) (hT : Cond.arrayClass (newarray.typeOf at_) ∈ hg_T) (hq : hg_sq k (X.2.1 k) = X.1) (hcap : X.2.1 k < hg_cap k) (h0 : ¬ n < 0) (hN : n.toNatClampNeg = N) (hbig : N ≤ 1000) (hm : 1 ≤ mc) (hs : N ≤ ms) (kk : hg_WP l E d Y (mc - 1) (ms - N) pc' loc (.ref (hg_ad E k (X.2.1 k)) :: st) (hg_z3 I k (X.2.1 k) 0, hg_z3 Lg k (X.2.1 k) 0, hg_z3 Rf k (X.2.1 k) none, (X.1 + 1, hg_up X.2.1 k (X.2.1 k + 1), hg_up2 X.2.2 k (X.2.1 k) N)) Q) : hg_WP l E d Y mc ms pc loc (.int n :: st) (I, Lg, Rf, X) Q := by
  intro p e R s m args below meth c0 H locs cells slots Z ls hF hK hR hP hS hL hz hret
  obtain ⟨hd, rfl⟩ := hd
  have ha : hg_ad E k (X.2.1 k) = H.size := by rw [hP.1]; show _ + hg_sq _ _ = _; rw [hq]
  rw [ha] at kk
  refine va_newaK hF.1 hF.2.1 (hF.ts hT) rfl hd rfl h0 hN (Nat.le_trans (Nat.mul_le_mul hbig (show _ ≤ 8 by cases at_ <;> decide)) (by decide)) (by omega) (by omega) rfl fun H1 cA e1 z1 o1 _ hNm => ?_
  refine kk p e R s m args below meth c0 H1 locs (cells + 1) (slots + N) Z ls hF hK ⟨hR.1, hR.2.1, by omega, by omega⟩ (hP.push hq hcap z1 o1 rfl ?_) (hg_S_push hS z1 o1) hL hz (fun pc ls H locs c' s' r M' h1 h2 h3 h4 h5 h6 => hret pc ls H locs c' s' r M' h1 h2 h3 h4 (by omega) (by omega))
  unfold hg_cell
  rw [hk]
  show H1[hg_ad E k (X.2.1 k)]? = some (arrV _ (hg_up2 X.2.2 k (X.2.1 k) N k (X.2.1 k)) _)
  rw [ha, e1, show hg_up2 X.2.2 k (X.2.1 k) N k (X.2.1 k) = N by simp [hg_up2]]
  rw [hty] at hNm
  rw [hg_arrT hK ht hNm]
  congr 2
  funext j
  unfold hg_av
  show _ = if hg_ty k ≤ 2 then Value.int (hg_z3 I k (X.2.1 k) 0 k (X.2.1 k) j) else if hg_ty k = 3 then Value.long (hg_z3 Lg k (X.2.1 k) 0 k (X.2.1 k) j) else hg_rv E (hg_z3 Rf k (X.2.1 k) none k (X.2.1 k) j)
  rw [show hg_z3 I k (X.2.1 k) 0 k (X.2.1 k) j = 0 by simp [hg_z3], show hg_z3 Lg k (X.2.1 k) 0 k (X.2.1 k) j = 0 by simp [hg_z3], hty]
  generalize hg_ty k = t at ht
  match t, ht with
  | 0, _ => rfl
  | 1, _ => rfl
  | 2, _ => rfl
  | 3, _ => rfl
theorem hg_newq {k N idx : Nat} {n : Int32} {C : String} (hd : hg_D Y pc pc' 3 (.anewarray idx)) (hc : Cond.classLink Y.1.cls idx C ∈ hg_T) (hk : hg_cl k = none) (hty : (hg_ty k = 4 ∧ C = "HangmanDinner$House") ∨ (hg_ty k = 5 ∧ C = "HangmanDinner$Tape")) (hq : hg_sq k (X.2.1 k) = X.1) (hcap : X.2.1 k < hg_cap k) (h0 : ¬ n < 0) (hN : n.toNatClampNeg = N) (hbig : N ≤ 1000) (hm : 1 ≤ mc) (hs : N ≤ ms) (kk : hg_WP l E d Y (mc - 1) (ms - N) pc' loc (.ref (hg_ad E k (X.2.1 k)) :: st) (hg_z3 I k (X.2.1 k) 0, hg_z3 Lg k (X.2.1 k) 0, hg_z3 Rf k (X.2.1 k) none, (X.1 + 1, hg_up X.2.1 k (X.2.1 k + 1), hg_up2 X.2.2 k (X.2.1 k) N)) Q) : hg_WP l E d Y mc ms pc loc (.int n :: st) (I, Lg, Rf, X) Q := by
  intro p e R s m args below meth c0 H locs cells slots Z ls hF hK hR hP hS hL hz hret
  obtain ⟨hd, rfl⟩ := hd
  have ha : hg_ad E k (X.2.1 k) = H.size := by rw [hP.1]; show _ + hg_sq _ _ = _; rw [hq]
  rw [ha] at kk
  subst hN
  have hover : (Cond.arrayOver (.object C)).before args s = true := by
    rcases hty with ⟨-, rfl⟩ | ⟨-, rfl⟩
    · exact va_AO.use hK.2.1
    · exact va_AO.use hK.2.2.1
  refine W.anew hF.1 hF.2.1 hF.2.2.2.1 (hF.ts hc) hover rfl hd rfl h0 (Nat.le_trans (Nat.mul_le_mul hbig (Nat.le_refl 4)) (by decide)) (by omega) (by omega) fun cA kA comp f1 f2 f3 f4 => ?_
  generalize hH1 : H.push ({ cls := cA, slots := Array.replicate n.toNatClampNeg .null, vm := .none } : Cell) = H1
  have z1 : H1.size = H.size + 1 := by rw [← hH1, Array.size_push]
  have e1 : H1[H.size]? = some (arrV cA n.toNatClampNeg (fun _ => .null)) := by rw [← hH1, Array.getElem?_push_size, ← arrV_new]
  have o1 : ∀ q : Nat, q < H.size → H1[q]? = H[q]? := fun q hq => by rw [← hH1, Array.getElem?_push, if_neg (Nat.ne_of_lt hq)]
  have hcA : cA = hg_cA E (hg_ty k) := by
    obtain ⟨-, _, _, -, -, -, k4⟩ := hg_ra hK hty
    exact Option.some.inj (f1.symm.trans k4)
  refine kk p e R s m args below meth c0 H1 locs (cells + 1) (slots + n.toNatClampNeg) Z ls hF hK ⟨hR.1, hR.2.1, by omega, by omega⟩ (hP.push hq hcap z1 o1 rfl ?_) (hg_S_push hS z1 o1) hL hz (fun pc ls H locs c' s' r M' h1 h2 h3 h4 h5 h6 => hret pc ls H locs c' s' r M' h1 h2 h3 h4 (by omega) (by omega))
  unfold hg_cell
  rw [hk]
  show H1[hg_ad E k (X.2.1 k)]? = some (arrV _ (hg_up2 X.2.2 k (X.2.1 k) n.toNatClampNeg k (X.2.1 k)) _)
  rw [ha, e1, show hg_up2 X.2.2 k (X.2.1 k) n.toNatClampNeg k (X.2.1 k) = n.toNatClampNeg by simp [hg_up2], hcA]
  congr 2
  funext j
  unfold hg_av
  show _ = if hg_ty k ≤ 2 then Value.int (hg_z3 I k (X.2.1 k) 0 k (X.2.1 k) j) else if hg_ty k = 3 then Value.long (hg_z3 Lg k (X.2.1 k) 0 k (X.2.1 k) j) else hg_rv E (hg_z3 Rf k (X.2.1 k) none k (X.2.1 k) j)
  rw [if_neg (by rcases hty with ⟨h, -⟩ | ⟨h, -⟩ <;> omega), if_neg (by rcases hty with ⟨h, -⟩ | ⟨h, -⟩ <;> omega), show hg_z3 Rf k (X.2.1 k) none k (X.2.1 k) j = none by simp [hg_z3]]
  rfl
theorem hg_objInit {idx : Nat} {a : Nat} (hd : hg_D Y pc pc' 3 (.invokespecial idx)) (hl : Cond.methodLink Y.1.cls idx objectInit ∈ hg_T) (kk : hg_WP l E d Y mc ms pc' loc [] M Q) : hg_WP l E d Y mc ms pc loc [.ref a] M Q := by
  intro p e R s m args below meth c0 H locs cells slots Z ls hF hK hR hP hS hL hz hret
  obtain ⟨hd, rfl⟩ := hd
  obtain ⟨-, lv, h1, -⟩ := id hL
  refine W.objInit hF.1 hF.2.1 hF.2.2.2.1 (hF.ts hl) (hF.ts hg_oi1) (hF.ts hg_oi2) rfl (by rw [hF.2.2.1]; exact h1.1) rfl hd (by omega) (by show 2 * 0 + 0 + 12 ≤ _; omega) ?_
  exact W.eq (g2 := F0 m (pc + 3) ls []) rfl (kk p e R s m args below meth c0 H locs cells slots Z ls hF hK hR hP hS hL hz hret)
-- statics, Strings' own rows, min, copies, switches
theorem hg_gets {idx : Nat} {C n dd : String} {v : Value} (hd : hg_D Y pc pc' 3 (.getstatic idx)) (hl : Cond.fieldLink Y.1.cls idx C n dd ∈ hg_T) (hv : ∀ s, hg_kn E s → va_Z C n dd v (hg_A E) s s.heap) (kk : hg_WP l E d Y mc ms pc' loc (v :: st) M Q) : hg_WP l E d Y mc ms pc loc st M Q := by
  intro p e R s m args below meth c0 H locs cells slots Z ls hF hK hR hP hS hL hz hret
  obtain ⟨hd, rfl⟩ := hd
  exact va_gets hF.1 hF.2.1 (hv s hK) hS hF.2.2.2.1 (hF.ts hl) (fun x h => h) hd (kk p e R s m args below meth c0 H locs cells slots Z ls hF hK hR hP hS hL hz hret)
theorem hg_getsq {idx : Nat} {C n dd : String} (hd : hg_D Y pc pc' 3 (.getstatic idx)) (hl : Cond.fieldLink Y.1.cls idx C n dd ∈ hg_T) (hv : ∀ s, hg_kn E s → va_Zq C n dd (hg_A E) s s.heap) (kk : ∀ v : Value, (v = .null ∨ ∃ a, v = .ref a) → hg_WP l E d Y mc ms pc' loc (v :: st) M Q) : hg_WP l E d Y mc ms pc loc st M Q := by
  intro p e R s m args below meth c0 H locs cells slots Z ls hF hK hR hP hS hL hz hret
  obtain ⟨hd, rfl⟩ := hd
  rcases hv s hK with h | ⟨t, h⟩
  · exact va_gets hF.1 hF.2.1 h hS hF.2.2.2.1 (hF.ts hl) (fun x h => h) hd (kk .null (Or.inl rfl) p e R s m args below meth c0 H locs cells slots Z ls hF hK hR hP hS hL hz hret)
  · exact va_gets hF.1 hF.2.1 h hS hF.2.2.2.1 (hF.ts hl) (fun x h => h) hd (kk (.ref t) (Or.inr ⟨t, rfl⟩) p e R s m args below meth c0 H locs cells slots Z ls hF hK hR hP hS hL hz hret)
theorem hg_getS {idx : Nat} {o n dd : String} {q : Nat} {v : Value} (hd : hg_D Y pc pc' 3 (.getfield idx)) (hl : Cond.fieldLink Y.1.cls idx o n dd ∈ hg_T) (hv : ∀ s, hg_kn E s → va_OF o n dd v q (hg_A E) s s.heap) (kk : hg_WP l E d Y mc ms pc' loc (v :: st) M Q) : hg_WP l E d Y mc ms pc loc (.ref q :: st) M Q := by
  intro p e R s m args below meth c0 H locs cells slots Z ls hF hK hR hP hS hL hz hret
  obtain ⟨hd, rfl⟩ := hd
  exact vk_getf hF.1 hF.2.1 (hv s hK) hS hF.2.2.2.1 (hF.ts hl) (fun x h => h) hd (kk p e R s m args below meth c0 H locs cells slots Z ls hF hK hR hP hS hL hz hret)
theorem hg_sum8 {st : List Value} {R : Room} (h : (st.map fun v => v.category).sum ≤ 8) (hR : 40 * (d + 1) ≤ R.locals) : (st.map fun v => v.category).sum + 13 ≤ R.locals := by omega
theorem hg_min {idx : Nat} {x y : Int32} (hd : hg_D Y pc pc' 3 (.invokestatic idx)) (hl : Cond.methodLink Y.1.cls idx Lib.Math.min.name ∈ hg_T) (hw : (st.map fun v => v.category).sum ≤ 8) (kk : hg_WP l E d Y mc ms pc' loc (.int (if y < x then y else x) :: st) M Q) : hg_WP l E d Y mc ms pc loc (.int y :: .int x :: st) M Q := by
  intro p e R s m args below meth c0 H locs cells slots Z ls hF hK hR hP hS hL hz hret
  obtain ⟨hd, rfl⟩ := hd
  obtain ⟨-, lv, h1, -⟩ := id hL
  exact va_mmin hF.1 hF.2.1 (hF.2.2.1.trans h1.1.symm) hF.2.2.2.1 (hF.ts hl) (hF.ts hg_min1) (hF.ts hg_mth) (hF.ts hg_min2) (by omega) (hg_sum8 hw hR.2.1) (by omega) (by omega) hd (kk p e R s m args below meth c0 H locs cells slots Z ls hF hK hR hP hS hL hz hret)
theorem hg_max {idx : Nat} {x y : Int32} (hd : hg_D Y pc pc' 3 (.invokestatic idx)) (hl : Cond.methodLink Y.1.cls idx Lib.Math.max.name ∈ hg_T) (hw : (st.map fun v => v.category).sum ≤ 8) (kk : hg_WP l E d Y mc ms pc' loc (.int (if x < y then y else x) :: st) M Q) : hg_WP l E d Y mc ms pc loc (.int y :: .int x :: st) M Q := by
  intro p e R s m args below meth c0 H locs cells slots Z ls hF hK hR hP hS hL hz hret
  obtain ⟨hd, rfl⟩ := hd
  obtain ⟨-, lv, h1, -⟩ := id hL
  exact va_mmax hF.1 hF.2.1 (hF.2.2.1.trans h1.1.symm) hF.2.2.2.1 (hF.ts hl) (hF.ts hg_max1) (hF.ts hg_mth) (hF.ts hg_max2) (by omega) (hg_sum8 hw hR.2.1) (by omega) (by omega) hd (kk p e R s m args below meth c0 H locs cells slots Z ls hF hK hR hP hS hL hz hret)
theorem hg_tabO {dflt lo hi : Int} {offs : Array Int} {n tgt : Nat} {x : Int32} (hd : hg_D Y pc pc' n (.tableswitch dflt lo hi offs)) (h : x.toInt < lo ∨ hi < x.toInt) (ht : (pc : Int) + dflt = (tgt : Int)) (kk : hg_WP l E d Y mc ms tgt loc st M Q) : hg_WP l E d Y mc ms pc loc (.int x :: st) M Q := by
  intro p e R s m args below meth c0 H locs cells slots Z ls hF hK hR hP hS hL hz hret
  exact lv_tableOut hF.1 hF.2.1 hd.1 h ht (kk p e R s m args below meth c0 H locs cells slots Z ls hF hK hR hP hS hL hz hret)
theorem hg_tabI {dflt lo hi off : Int} {offs : Array Int} {n tgt : Nat} {x : Int32} (hd : hg_D Y pc pc' n (.tableswitch dflt lo hi offs)) (h1 : ¬ x.toInt < lo) (h2 : ¬ hi < x.toInt) (ho : offs[(x.toInt - lo).toNat]? = some off) (ht : (pc : Int) + off = (tgt : Int)) (kk : hg_WP l E d Y mc ms tgt loc st M Q) : hg_WP l E d Y mc ms pc loc (.int x :: st) M Q := by
  intro p e R s m args below meth c0 H locs cells slots Z ls hF hK hR hP hS hL hz hret
  exact lv_tableIn hF.1 hF.2.1 hd.1 h1 h2 ho ht (kk p e R s m args below meth c0 H locs cells slots Z ls hF hK hR hP hS hL hz hret)
theorem hg_look {dflt off : Int} {ps : Array (Int × Int)} {n tgt : Nat} {x : Int32} (hd : hg_D Y pc pc' n (.lookupswitch dflt ps)) (hp : (ps.toList.zip (ps.toList.drop 1)).all (fun (a, next) => a.1 < next.1) = true) (ho : Op.lookupswitch.offset ps.toList dflt x.toInt = off) (ht : (pc : Int) + off = (tgt : Int)) (kk : hg_WP l E d Y mc ms tgt loc st M Q) : hg_WP l E d Y mc ms pc loc (.int x :: st) M Q := by
  intro p e R s m args below meth c0 H locs cells slots Z ls hF hK hR hP hS hL hz hret
  exact lv_lookup hF.1 hF.2.1 hd.1 hp ho ht (kk p e R s m args below meth c0 H locs cells slots Z ls hF hK hR hP hS hL hz hret)
end HG
end
section
/-! copies, calls, a method's start and its ends -/
section HG2
variable {l : Launch} {E : hg_E} {d : Nat} {Y : hg_Y} {mc ms pc pc' : Nat} {loc : List (Option Value)} {st : List Value} {M : hg_M} {Q : Option Value → hg_M → Prop}
variable {I : Nat → Nat → Nat → Int32} {Lg : Nat → Nat → Nat → Int64} {Rf : Nat → Nat → Nat → Option (Nat × Nat)} {X : Nat × (Nat → Nat) × (Nat → Nat → Nat)}
theorem hg_toInt {z : Int32} (hz : ¬ z < 0) : z.toInt = (z.toNatClampNeg : Int) := by
  have hz0 : (0 : Int) ≤ z.toInt := by
    have := Int32.not_lt.mp hz
    simpa using Int32.le_iff_toInt_le.mp this
  show z.toInt = ((z.toInt.toNat : Nat) : Int)
  omega
/-- a copy, by the cells' contents -/
theorem hg_copyX {α : Type} (mk : α → Value) {f g : Nat → α} {idx k i k0 i0 : Nat} {sp dp n : Int32} {M' : hg_M} (hd : hg_D Y pc pc' 3 (.invokestatic idx)) (hl : Cond.methodLink Y.1.cls idx arraycopyName ∈ hg_T) (hk0 : hg_cl k0 = none) (hi0 : i0 < hg_ct M k0) (hk : hg_cl k = none) (hy : hg_ty k0 = hg_ty k) (hprim : refKind (hg_fty (hg_ty k)) = false) (hi : i < hg_ct M k) (hf : hg_av E M k0 i0 = fun j => mk (f j)) (hg : hg_av E M k i = fun j => mk (g j)) (hmk : ∀ a, fits (hg_fty (hg_ty k)) (mk a) = true) (hmk2 : ∀ a, ∀ q, mk a ≠ .ref q)
    (h1 : ¬ sp < 0) (h2 : ¬ dp < 0) (h3 : ¬ n < 0) (h4 : sp.toNatClampNeg + n.toNatClampNeg ≤ hg_ln M k0 i0) (h5 : dp.toNatClampNeg + n.toNatClampNeg ≤ hg_ln M k i) (hw : (st.map fun v => v.category).sum ≤ 8)
    (hX : M'.2.2.2 = M.2.2.2) (hs : ∀ k' i', ¬ (k' = k ∧ i' = i) → (∀ j, M'.1 k' i' j = M.1 k' i' j) ∧ (∀ j, M'.2.1 k' i' j = M.2.1 k' i' j) ∧ ∀ j, M'.2.2.1 k' i' j = M.2.2.1 k' i' j) (hv : ∀ x, hg_av E M' k i x = mk (va_cpy f g sp.toNatClampNeg dp.toNatClampNeg n.toNatClampNeg x))
    (kk : hg_WP l E d Y mc ms pc' loc st M' Q) : hg_WP l E d Y mc ms pc loc (.int n :: .int dp :: .ref (hg_ad E k i) :: .int sp :: .ref (hg_ad E k0 i0) :: st) M Q := by
  intro p e R s m args below meth c0 H locs cells slots Z ls hF hK hR hP hS hL hz hret
  obtain ⟨hd, rfl⟩ := hd
  obtain ⟨-, lv, hl1, -⟩ := id hL
  have hc0 := hP.arr hk0 hi0
  have hc1 := hP.arr hk hi
  rw [hf] at hc0
  rw [hg] at hc1
  have ha0 := (hK.1.2 _ _ (hg_tys_at E (hg_ty6 k0))).1 (hg_ln M k0 i0) (fun j => mk (f j))
  have ha1 := (hK.1.2 _ _ (hg_tys_at E (hg_ty6 k))).1 (hg_ln M k i) (fun j => mk (g j))
  rw [hy] at hc0 ha0
  obtain ⟨-, q0, hq0, cm0, hqq0⟩ := ha0
  obtain ⟨-, q1, hq1, cm1, hqq1⟩ := ha1
  have e5 : nativeFrameWords "java/lang/System" "arraycopy" 5 + 11 ≤ 32 := by decide
  intro T hT X
  obtain ⟨vm', X', step⟩ := X.arraycopy hF.1 hF.2.2.2.1 (hF.ts hl) (hF.ts hg_cp1) (hF.ts hg_cp2) (hF.ts hg_cp3) (src := hg_ad E k0 i0) (dst := hg_ad E k i) (cs := arrV (hg_cA E (hg_ty k)) (hg_ln M k0 i0) (fun j => mk (f j))) (cd := arrV (hg_cA E (hg_ty k)) (hg_ln M k i) (fun j => mk (g j))) (srcPos := sp) (destPos := dp) (n := n) (by rw [hT]; exact hc0) (by rw [hT]; exact hc1)
    (fun _ h => by cases h) (fun _ h => by cases h) (fun h => by cases h) (fun h => by cases h) hq0 hq1 hqq0 hqq1 (by simp [hprim]) h1 h2 h3
    (by rw [hg_toInt h1, hg_toInt h3]; show ¬ _ > ((arrV _ _ _).slots.size : Int); rw [arrV_size]; omega)
    (by rw [hg_toInt h2, hg_toInt h3]; show ¬ _ > ((arrV _ _ _).slots.size : Int); rw [arrV_size]; omega)
    (fun vm₁ _ i hi => by
      have e : (arrV (hg_cA E (hg_ty k)) (hg_ln M k0 i0) (fun j => mk (f j))).slots.getD (sp.toNatClampNeg + i) .null = mk (f (sp.toNatClampNeg + i)) := by
        rw [Array.getD_eq_getD_getElem?, arrV_read _ _ (by omega)]
        rfl
      refine ⟨?_, ?_⟩
      · rw [e]
        exact hmk _
      · rw [e]
        have := hmk2 (f (sp.toNatClampNeg + i))
        generalize mk (f (sp.toNatClampNeg + i)) = z at this
        cases z <;> first | trivial | exact absurd rfl (this _))
    (g := F0 m pc ls (.int n :: .int dp :: .ref (hg_ad E k i) :: .int sp :: .ref (hg_ad E k0 i0) :: st)) rfl (by rw [hF.2.2.1]; exact hl1.1) (rest := st) rfl (by rw [hF.2.1]; exact hd) (by omega) (by show 2 * 0 + _ + _ ≤ _; omega)
  have e1 : copied (arrV (hg_cA E (hg_ty k)) (hg_ln M k0 i0) (fun j => mk (f j))) (arrV (hg_cA E (hg_ty k)) (hg_ln M k i) (fun j => mk (g j))) sp dp n = arrV (hg_cA E (hg_ty k)) (hg_ln M k i) (fun j => mk (va_cpy f g sp.toNatClampNeg dp.toNatClampNeg n.toNatClampNeg j)) := va_copied mk _ _ f g h4
  rw [e1] at X' step
  have hlt : hg_ad E k i < H.size := hP.lt hi
  generalize hce : arrV (hg_cA E (hg_ty k)) (hg_ln M k i) (fun j => mk (va_cpy f g sp.toNatClampNeg dp.toNatClampNeg n.toNatClampNeg j)) = ce at X' step
  have hheap : ((T.setVm vm').setCell (hg_ad E k i) ce).heap = H.setIfInBounds (hg_ad E k i) ce := by rw [← hT]; rfl
  have oq : ∀ q : Nat, q ≠ hg_ad E k i → (H.setIfInBounds (hg_ad E k i) ce)[q]? = H[q]? := fun q hq => by simp [Array.getElem?_setIfInBounds, Ne.symm hq]
  have hA : hg_A E (hg_ad E k i) := Nat.le_add_right _ _
  obtain ⟨t, a1, b1⟩ := kk p e R s m args below meth c0 _ _ cells slots Z ls hF hK hR (hP.upd (H1 := H.setIfInBounds (hg_ad E k i) ce) (by simp) oq hi hX hs (by
      unfold hg_cell
      rw [hk]
      show (H.setIfInBounds (hg_ad E k i) ce)[hg_ad E k i]? = some (arrV _ (M'.2.2.2.2.2 k i) _)
      rw [hX, ← hce]
      rw [show hg_av E M' k i = fun x => mk (va_cpy f g sp.toNatClampNeg dp.toNatClampNeg n.toNatClampNeg x) from funext hv]
      simp [Array.getElem?_setIfInBounds, hlt])) ⟨by simp; exact hS.1, fun q g1 g2 => by
      rw [oq q (fun e => g2 (by rw [e]; exact hA))]
      exact hS.2.1 q g1 g2, fun q hq => by
      rcases List.mem_append.mp hq with h | h
      · exact hS.2.2 q h
      · obtain ⟨z, -, hz⟩ := List.mem_map.mp h
        rw [← hz]
        exact hA⟩ hL hz hret _ hheap X'
  exact ⟨t, step t a1, b1⟩
theorem hg_copyI {idx k i k0 i0 : Nat} {sp dp n : Int32} (hd : hg_D Y pc pc' 3 (.invokestatic idx)) (hl : Cond.methodLink Y.1.cls idx arraycopyName ∈ hg_T) (hk0 : hg_cl k0 = none) (hy0 : hg_ty k0 = 0) (hi0 : i0 < X.2.1 k0) (hk : hg_cl k = none) (hy : hg_ty k = 0) (hi : i < X.2.1 k) (h1 : ¬ sp < 0) (h2 : ¬ dp < 0) (h3 : ¬ n < 0) (h4 : sp.toNatClampNeg + n.toNatClampNeg ≤ X.2.2 k0 i0) (h5 : dp.toNatClampNeg + n.toNatClampNeg ≤ X.2.2 k i) (hw : (st.map fun v => v.category).sum ≤ 8)
    (kk : hg_WP l E d Y mc ms pc' loc st (hg_cp I k i k0 i0 sp.toNatClampNeg dp.toNatClampNeg n.toNatClampNeg, Lg, Rf, X) Q) : hg_WP l E d Y mc ms pc loc (.int n :: .int dp :: .ref (hg_ad E k i) :: .int sp :: .ref (hg_ad E k0 i0) :: st) (I, Lg, Rf, X) Q := by
  refine hg_copyX (M' := (hg_cp I k i k0 i0 sp.toNatClampNeg dp.toNatClampNeg n.toNatClampNeg, Lg, Rf, X)) Value.int (f := I k0 i0) (g := I k i) hd hl hk0 hi0 hk (hy0.trans hy.symm) (by rw [hy]; rfl) hi (funext fun j => by simp [hg_av, hy0]) (funext fun j => by simp [hg_av, hy]) (fun a => by rw [hy]; rfl) (fun a q h => by cases h) h1 h2 h3 h4 h5 hw rfl (fun k' i' h => ⟨fun j => ?_, fun _ => rfl, fun _ => rfl⟩) (fun x => ?_) kk
  · show hg_cp I k i k0 i0 _ _ _ k' i' j = I k' i' j
    unfold hg_cp
    rw [if_neg (fun q => h ⟨q.1, q.2.1⟩)]
  · simp [hg_av, hy, hg_cp, va_cpy]
theorem hg_copyL {idx k i k0 i0 : Nat} {sp dp n : Int32} (hd : hg_D Y pc pc' 3 (.invokestatic idx)) (hl : Cond.methodLink Y.1.cls idx arraycopyName ∈ hg_T) (hk0 : hg_cl k0 = none) (hy0 : hg_ty k0 = 3) (hi0 : i0 < X.2.1 k0) (hk : hg_cl k = none) (hy : hg_ty k = 3) (hi : i < X.2.1 k) (h1 : ¬ sp < 0) (h2 : ¬ dp < 0) (h3 : ¬ n < 0) (h4 : sp.toNatClampNeg + n.toNatClampNeg ≤ X.2.2 k0 i0) (h5 : dp.toNatClampNeg + n.toNatClampNeg ≤ X.2.2 k i) (hw : (st.map fun v => v.category).sum ≤ 8)
    (kk : hg_WP l E d Y mc ms pc' loc st (I, hg_cp Lg k i k0 i0 sp.toNatClampNeg dp.toNatClampNeg n.toNatClampNeg, Rf, X) Q) : hg_WP l E d Y mc ms pc loc (.int n :: .int dp :: .ref (hg_ad E k i) :: .int sp :: .ref (hg_ad E k0 i0) :: st) (I, Lg, Rf, X) Q := by
  refine hg_copyX (M' := (I, hg_cp Lg k i k0 i0 sp.toNatClampNeg dp.toNatClampNeg n.toNatClampNeg, Rf, X)) Value.long (f := Lg k0 i0) (g := Lg k i) hd hl hk0 hi0 hk (hy0.trans hy.symm) (by rw [hy]; rfl) hi (funext fun j => by simp [hg_av, hy0]) (funext fun j => by simp [hg_av, hy]) (fun a => by rw [hy]; rfl) (fun a q h => by cases h) h1 h2 h3 h4 h5 hw rfl (fun k' i' h => ⟨fun _ => rfl, fun j => ?_, fun _ => rfl⟩) (fun x => ?_) kk
  · show hg_cp Lg k i k0 i0 _ _ _ k' i' j = Lg k' i' j
    unfold hg_cp
    rw [if_neg (fun q => h ⟨q.1, q.2.1⟩)]
  · simp [hg_av, hy, hg_cp, va_cpy]
end HG2
end
section
/-! calls; a method's start and its ends -/
section HG3
variable {l : Launch} {E : hg_E} {d : Nat} {Y : hg_Y} {mc ms pc pc' : Nat} {loc : List (Option Value)} {st : List Value} {M : hg_M} {Q : Option Value → hg_M → Prop}
theorem hg_goodw {Z : hg_Y} {n : Nat} (h : hg_YK Z n) : GoodIn hg_T (hg_yw Z :: hg_T) := fun w hw => by
  rcases List.mem_cons.mp hw with rfl | hw
  · exact hg_good _ h.1
  · exact hg_good w hw
theorem hg_blind {as : List Value} : FrameBlind (va_Pc as (fun U => hg_rep E M U.heap ∧ hg_kn E U ∧ hg_z E ≤ U.heap.size)) := fun a U g mk h => ⟨h.1, h.2.1, h.2.2.1.blind, h.2.2.2⟩
/-- behind a call -/
theorem hg_back {p : Program} {e : Env} {R : Room} {s : State} {m : MethodId} {args : Array Value} {below : List Frame} {meth : Method} {c : Code} {H : Heap} {locs : List Loc} {cells slots : Nat} {Z : State → Prop} {ls : Array Slot} {mc' ms' : Nat} {rest : List Value} {a : Array Value} {Q' : Option Value → hg_M → Prop} (hF : hg_fix p Y s m args meth c) (hK : hg_kn E s) (hR : d + 1 ≤ R.frames ∧ 40 * (d + 1) ≤ R.locals ∧ cells + mc ≤ R.cells ∧ slots + ms ≤ R.slots) (hS : va_S (hg_A E) s.heap H locs) (hL : hg_lok ls Y.2.2.1 loc) (hz : hg_z E ≤ s.heap.size)
    (hret : ∀ (pc : Nat) (ls : Array Slot) (H : Heap) (locs : List Loc) (cells' slots' : Nat) (r : Option Value) (M' : hg_M), Q r M' → hg_ret Y pc r → hg_rep E M' H → va_S (hg_A E) s.heap H locs → cells' ≤ cells + mc → slots' ≤ slots + ms → W p l e R s m args below meth c H locs cells' slots' Z (F0 m pc ls r.toList))
    (hb : mc' ≤ mc ∧ ms' ≤ ms) (kk : ∀ (r : Option Value) (M' : hg_M), Q' r M' → hg_WP l E d Y (mc - mc') (ms - ms') (pc + 3) loc (r.toList ++ rest) M' Q)
    (hr : va_Run p l e R s m args below meth c H locs cells slots mc' ms' (F0 m pc ls st) rest (hg_Q E Q' a) (hg_A E)) : W p l e R s m args below meth c H locs cells slots Z (F0 m pc ls st) := by
  intro T hT X
  obtain ⟨v, st₀, t, T', L, h0, X', hLf, e1, e2, ⟨⟨r, M', hv, hq, hrep⟩, hfz, hfk⟩, stp⟩ := hr T hT X
  cases hv
  rw [h0] at hfz hfk
  have hS' : va_S (hg_A E) s.heap T'.heap (locs ++ L) := ⟨Nat.le_trans hS.1 (by rw [e1]; exact hfz), fun q h1 h2 => by rw [e1, hfk q (Nat.lt_of_lt_of_le h1 hS.1) h2]; exact hS.2.1 q h1 h2, fun q hq => by
      rcases List.mem_append.mp hq with h | h
      · exact hS.2.2 q h
      · exact hLf q h⟩
  obtain ⟨t2, a1, b1⟩ := kk v M' hq p e R s m args below meth c T'.heap (locs ++ L) (cells + mc') (slots + ms') Z ls hF hK ⟨hR.1, hR.2.1, by omega, by omega⟩ (by rw [e1]; exact hrep) hS' hL hz (fun pc ls H locs c' s' r M' h1 h2 h3 h4 h5 h6 => hret pc ls H locs c' s' r M' h1 h2 h3 h4 (by omega) (by omega)) T' rfl X'
  exact ⟨t2, stp t2 a1, b1⟩
theorem hg_room {R : Room} {mc ms mL : Nat} (hR : d + 1 ≤ R.frames ∧ 40 * (d + 1) ≤ R.locals) (h : mL ≤ 21) : ({ frames := d, cells := mc, slots := ms, locals := 40 * d } : Room).frames + 1 ≤ R.frames ∧ 8 + (mL + 11) + ({ frames := d, cells := mc, slots := ms, locals := 40 * d } : Room).locals ≤ R.locals := by
  refine ⟨hR.1, ?_⟩
  show 8 + (mL + 11) + 40 * d ≤ R.locals
  omega
theorem hg_callV {Z : hg_Y} {idx n k i ci mc' ms' : Nat} {As rest : List Value} {Q' : Option Value → hg_M → Prop} (hd : hg_D Y pc pc' 3 (.invokevirtual idx)) (hl : hg_LV Y.1.cls idx Z n) (hk : hg_cl k = some ci) (hci : hg_C ci = Z.1.cls) (hi : i < hg_ct M k) (hn : As.length = n) (hw : (rest.map fun v => v.category).sum ≤ 8) (hb : mc' ≤ mc ∧ ms' ≤ ms) (hm : hg_MC l E d Z mc' ms' (.ref (hg_ad E k i) :: As) M Q') (hst : st = As.reverse ++ .ref (hg_ad E k i) :: rest) (kk : ∀ (r : Option Value) (M' : hg_M), Q' r M' → hg_WP l E d Y (mc - mc') (ms - ms') pc' loc (r.toList ++ rest) M' Q) : hg_WP l E d Y mc ms pc loc st M Q := by
  intro p e R s m args below meth c H locs cells slots Zs ls hF hK hR hP hS hL hz hret
  obtain ⟨hd, rfl⟩ := hd
  obtain ⟨-, lv, hl1, -⟩ := id hL
  obtain ⟨hyk, h1, h2, h3⟩ := hl
  have hc9 := hg_cl9 _ _ hk
  obtain ⟨cellB, g1, g2, g3, -⟩ := hP.obj hk hi
  have hcls := (hK.1.1 ci _ (hg_cls_at hc9)).2.1
  refine hg_back hF hK hR hS hL hz hret hb kk (va_runV (C := Z.1.cls) (As := As) (rest := rest) (Ts := hg_T) (own := Y.1.cls) ⟨hF.1, hF.2.1, hF.2.2.1, hF.2.2.2.1, hF.2.2.2.2.1⟩ hm ⟨callB_of n hF.2.2.2.2.1 (hg_goodw hyk) rfl rfl rfl (hF.ts hyk.2.1) (hF.ts h1) hyk.2.2.1 (hg_room ⟨hR.1, hR.2.1⟩ hyk.2.2.2.1), hF.ts h2, hF.ts h3⟩ ⟨hg_blind, ⟨cellB, g1, by rw [g3]; rfl, by rw [g2, ← hci]; exact hcls⟩, fun U hU hW => ⟨rfl, by rw [hU]; exact hP, hK.to hS hU hW, by rw [hU]; exact Nat.le_trans hz hS.1⟩⟩ rfl hn hl1.1 hst (lv_room hw) hd ⟨by omega, by omega⟩)
theorem hg_callS {Z : hg_Y} {idx n mc' ms' : Nat} {As rest : List Value} {Q' : Option Value → hg_M → Prop} (hd : hg_D Y pc pc' 3 (.invokestatic idx)) (hl : hg_LS Y.1.cls idx Z n) (hn : As.length = n) (hw : (rest.map fun v => v.category).sum ≤ 8) (hb : mc' ≤ mc ∧ ms' ≤ ms) (hm : hg_MC l E d Z mc' ms' As M Q') (hst : st = As.reverse ++ rest) (kk : ∀ (r : Option Value) (M' : hg_M), Q' r M' → hg_WP l E d Y (mc - mc') (ms - ms') pc' loc (r.toList ++ rest) M' Q) : hg_WP l E d Y mc ms pc loc st M Q := by
  intro p e R s m args below meth c H locs cells slots Zs ls hF hK hR hP hS hL hz hret
  obtain ⟨hd, rfl⟩ := hd
  obtain ⟨-, lv, hl1, -⟩ := id hL
  obtain ⟨hyk, h1, h2⟩ := hl
  refine hg_back hF hK hR hS hL hz hret hb kk (va_runS (As := As) (rest := rest) (Ts := hg_T) (own := Y.1.cls) ⟨hF.1, hF.2.1, hF.2.2.1, hF.2.2.2.1, hF.2.2.2.2.1⟩ hm ⟨callB_of n hF.2.2.2.2.1 (hg_goodw hyk) rfl rfl rfl (hF.ts hyk.2.1) (hF.ts h1) hyk.2.2.1 (hg_room ⟨hR.1, hR.2.1⟩ hyk.2.2.2.1), hF.ts h2⟩ ⟨hg_blind, fun U hU hW => ⟨rfl, by rw [hU]; exact hP, hK.to hS hU hW, by rw [hU]; exact Nat.le_trans hz hS.1⟩⟩ rfl hn hl1.1 hst (lv_room hw) hd ⟨by omega, by omega⟩)
theorem hg_callI {Z : hg_Y} {idx n b mc' ms' : Nat} {As rest : List Value} {Q' : Option Value → hg_M → Prop} (hd : hg_D Y pc pc' 3 (.invokespecial idx)) (hl : hg_LI Y.1.cls idx Z n) (hn : As.length = n) (hw : (rest.map fun v => v.category).sum ≤ 8) (hb : mc' ≤ mc ∧ ms' ≤ ms) (hm : hg_MC l E d Z mc' ms' (.ref b :: As) M Q') (hst : st = As.reverse ++ .ref b :: rest) (kk : ∀ (r : Option Value) (M' : hg_M), Q' r M' → hg_WP l E d Y (mc - mc') (ms - ms') pc' loc (r.toList ++ rest) M' Q) : hg_WP l E d Y mc ms pc loc st M Q := by
  intro p e R s m args below meth c H locs cells slots Zs ls hF hK hR hP hS hL hz hret
  obtain ⟨hd, rfl⟩ := hd
  obtain ⟨-, lv, hl1, -⟩ := id hL
  obtain ⟨hyk, h1, h2, h3, h4⟩ := hl
  have hcb := callB_of (own := Y.1.cls) (index := idx) (y := Z.1) (bytes := Z.2.1) (maxL := Z.2.2.1) (ret := Z.2.2.2) (rm := ({ frames := d, cells := mc', slots := ms', locals := 40 * d } : Room)) (R := R) n hF.2.2.2.2.1 (hg_goodw hyk) rfl rfl rfl (hF.ts hyk.2.1) (hF.ts h1) hyk.2.2.1 (hg_room ⟨hR.1, hR.2.1⟩ hyk.2.2.2.1)
  rw [h4] at hcb
  refine hg_back hF hK hR hS hL hz hret hb kk (va_runI (b := b) (As := As) (rest := rest) (Ts := hg_T) (own := Y.1.cls) ⟨hF.1, hF.2.1, hF.2.2.1, hF.2.2.2.1, hF.2.2.2.2.1⟩ hm ⟨hcb, h3, hF.ts h2⟩ ⟨hg_blind, fun U hU hW => ⟨rfl, by rw [hU]; exact hP, hK.to hS hU hW, by rw [hU]; exact Nat.le_trans hz hS.1⟩⟩ rfl hn hl1.1 hst (lv_room hw) hd ⟨by omega, by omega⟩)
theorem hg_callN {Z : hg_Y} {idx n b mc' ms' : Nat} {host : String} {As rest : List Value} {Q' : Option Value → hg_M → Prop} (hd : hg_D Y pc pc' 3 (.invokespecial idx)) (hyk : hg_YK Z n) (hnl : (Y.1.cls, idx, Z.1, host) ∈ hg_nl) (h2 : Cond.instanceMethod Z.1 ∈ hg_T) (h3 : Z.1.name = "<init>") (h4 : Z.2.2.2 = none) (hn : As.length = n) (hw : (rest.map fun v => v.category).sum ≤ 8) (hb : mc' ≤ mc ∧ ms' ≤ ms) (hm : hg_MC l E d Z mc' ms' (.ref b :: As) M Q') (hst : st = As.reverse ++ .ref b :: rest) (kk : ∀ (r : Option Value) (M' : hg_M), Q' r M' → hg_WP l E d Y (mc - mc') (ms - ms') pc' loc (r.toList ++ rest) M' Q) : hg_WP l E d Y mc ms pc loc st M Q := by
  intro p e R s m args below meth c H locs cells slots Zs ls hF hK hR hP hS hL hz hret
  obtain ⟨hd, rfl⟩ := hd
  obtain ⟨-, lv, hl1, -⟩ := id hL
  have hcb := va_cnB (own := Y.1.cls) (host := host) (index := idx) (y := Z.1) (bytes := Z.2.1) (maxL := Z.2.2.1) (ret := Z.2.2.2) (rm := ({ frames := d, cells := mc', slots := ms', locals := 40 * d } : Room)) (R := R) n hF.2.2.2.2.1 (hg_goodw hyk) rfl rfl rfl (hK.2.2.2.1 _ hnl) (hF.ts hyk.2.1) hyk.2.2.1 (hg_room ⟨hR.1, hR.2.1⟩ hyk.2.2.2.1)
  rw [h4] at hcb
  refine hg_back hF hK hR hS hL hz hret hb kk (va_runIN (b := b) (As := As) (rest := rest) (Ts := hg_T) (own := Y.1.cls) ⟨hF.1, hF.2.1, hF.2.2.1, hF.2.2.2.1, hF.2.2.2.2.1⟩ hm ⟨hcb, h3, hF.ts h2⟩ ⟨hg_blind, fun U hU hW => ⟨rfl, by rw [hU]; exact hP, hK.to hS hU hW, by rw [hU]; exact Nat.le_trans hz hS.1⟩⟩ rfl hn hl1.1 hst (lv_room hw) hd ⟨by omega, by omega⟩)
/-- a String's own method: the receiver is a constant -/
theorem hg_callQ {Z : hg_Y} {idx n t mc' ms' : Nat} {As rest : List Value} {Q' : Option Value → hg_M → Prop} (hd : hg_D Y pc pc' 3 (.invokevirtual idx)) (hl : hg_LV Y.1.cls idx Z n) (ht : t < 5) (hci : Z.1.cls = "java/lang/String") (hn : As.length = n) (hw : (rest.map fun v => v.category).sum ≤ 8) (hb : mc' ≤ mc ∧ ms' ≤ ms) (hm : hg_MC l E d Z mc' ms' (.ref (hg_ex E (10 + t)) :: As) M Q') (hst : st = As.reverse ++ .ref (hg_ex E (10 + t)) :: rest) (kk : ∀ (r : Option Value) (M' : hg_M), Q' r M' → hg_WP l E d Y (mc - mc') (ms - ms') pc' loc (r.toList ++ rest) M' Q) : hg_WP l E d Y mc ms pc loc st M Q := by
  intro p e R s m args below meth c H locs cells slots Zs ls hF hK hR hP hS hL hz hret
  obtain ⟨hd, rfl⟩ := hd
  obtain ⟨-, lv, hl1, -⟩ := id hL
  obtain ⟨hyk, h1, h2, h3⟩ := hl
  have hrec := vk_recv (i := t) hK.2.2.2.2.2.2.2.2.2.2.2.2 ht hS
  refine hg_back hF hK hR hS hL hz hret hb kk (va_runV (C := Z.1.cls) (As := As) (rest := rest) (Ts := hg_T) (own := Y.1.cls) ⟨hF.1, hF.2.1, hF.2.2.1, hF.2.2.2.1, hF.2.2.2.2.1⟩ hm ⟨callB_of n hF.2.2.2.2.1 (hg_goodw hyk) rfl rfl rfl (hF.ts hyk.2.1) (hF.ts h1) hyk.2.2.1 (hg_room ⟨hR.1, hR.2.1⟩ hyk.2.2.2.1), hF.ts h2, hF.ts h3⟩ ⟨hg_blind, by rw [hci]; exact hrec, fun U hU hW => ⟨rfl, by rw [hU]; exact hP, hK.to hS hU hW, by rw [hU]; exact Nat.le_trans hz hS.1⟩⟩ rfl hn hl1.1 hst (lv_room hw) hd ⟨by omega, by omega⟩)
-- ends
theorem hg_ireturn {v : Int32} {ty : FieldType} {P : Int32 → hg_M → Prop} (hd : hg_D Y pc pc' 1 .ireturn) (hr : Y.2.2.2 = some ty) (hn : narrow ty (.int v) = .int v) (h : P v M) : hg_WP l E d Y mc ms pc loc [.int v] M (hg_i P) := by
  intro p e R s m args below meth c H locs cells slots Zs ls hF hK hR hP hS hL hz hret
  exact hret pc ls H locs cells slots (some (.int v)) M ⟨v, rfl, h⟩ (Or.inl ⟨v, ty, rfl, hd.1, hr, hn⟩) hP hS (by omega) (by omega)
theorem hg_lreturn {v : Int64} {P : Int64 → hg_M → Prop} (hd : hg_D Y pc pc' 1 .lreturn) (hr : Y.2.2.2 = some .long) (h : P v M) : hg_WP l E d Y mc ms pc loc [.long v] M (hg_l P) := by
  intro p e R s m args below meth c H locs cells slots Zs ls hF hK hR hP hS hL hz hret
  exact hret pc ls H locs cells slots (some (.long v)) M ⟨v, rfl, h⟩ (Or.inr (Or.inl ⟨v, rfl, hd.1, hr⟩)) hP hS (by omega) (by omega)
theorem hg_return {P : hg_M → Prop} (hd : hg_D Y pc pc' 1 .return_) (hr : Y.2.2.2 = none) (h : P M) : hg_WP l E d Y mc ms pc loc [] M (hg_v P) := by
  intro p e R s m args below meth c H locs cells slots Zs ls hF hK hR hP hS hL hz hret
  exact hret pc ls H locs cells slots none M ⟨rfl, h⟩ (Or.inr (Or.inr (Or.inl ⟨rfl, hd.1, hr⟩))) hP hS (by omega) (by omega)
theorem hg_areturn {k i : Nat} {rt : FieldType} {P : Option (Nat × Nat) → hg_M → Prop} (hd : hg_D Y pc pc' 1 .areturn) (hr : Y.2.2.2 = some rt) (hrt : (∃ n, rt = .object n) ∨ ∃ t, rt = .array t) (h : P (some (k, i)) M) : hg_WP l E d Y mc ms pc loc [.ref (hg_ad E k i)] M (hg_r E P) := by
  intro p e R s m args below meth c H locs cells slots Zs ls hF hK hR hP hS hL hz hret
  exact hret pc ls H locs cells slots (some (.ref (hg_ad E k i))) M ⟨some (k, i), rfl, h⟩ (Or.inr (Or.inr (Or.inr ⟨_, rt, rfl, Or.inr ⟨_, rfl⟩, hd.1, hr, hrt⟩))) hP hS (by omega) (by omega)
theorem hg_areturnN {rt : FieldType} {P : Option (Nat × Nat) → hg_M → Prop} (hd : hg_D Y pc pc' 1 .areturn) (hr : Y.2.2.2 = some rt) (hrt : (∃ n, rt = .object n) ∨ ∃ t, rt = .array t) (h : P none M) : hg_WP l E d Y mc ms pc loc [.null] M (hg_r E P) := by
  intro p e R s m args below meth c H locs cells slots Zs ls hF hK hR hP hS hL hz hret
  exact hret pc ls H locs cells slots (some .null) M ⟨none, rfl, h⟩ (Or.inr (Or.inr (Or.inr ⟨_, rt, rfl, Or.inl rfl, hd.1, hr, hrt⟩))) hP hS (by omega) (by omega)
theorem hg_post {Q' : Option Value → hg_M → Prop} (h : hg_WP l E d Y mc ms pc loc st M Q') (hq : ∀ r M', Q' r M' → Q r M') : hg_WP l E d Y mc ms pc loc st M Q := by
  intro p e R s m args below meth c H locs cells slots Zs ls hF hK hR hP hS hL hz hret
  exact h p e R s m args below meth c H locs cells slots Zs ls hF hK hR hP hS hL hz (fun pc ls H locs c' s' r M' h1 => hret pc ls H locs c' s' r M' (hq r M' h1))
theorem hg_less {mc' ms' : Nat} (h : hg_WP l E d Y mc' ms' pc loc st M Q) (h1 : mc' ≤ mc) (h2 : ms' ≤ ms) : hg_WP l E d Y mc ms pc loc st M Q := by
  intro p e R s m args below meth c H locs cells slots Zs ls hF hK hR hP hS hL hz hret
  exact h p e R s m args below meth c H locs cells slots Zs ls hF hK ⟨hR.1, hR.2.1, by omega, by omega⟩ hP hS hL hz (fun pc ls H locs c' s' r M' g1 g2 g3 g4 g5 g6 => hret pc ls H locs c' s' r M' g1 g2 g3 g4 (by omega) (by omega))
/-- a method, from its start -/
theorem hg_mc {n : Nat} {as : List Value} (hk : hg_YK Y n) (hlen : (lg_sl as).length ≤ Y.2.2.1) (h : hg_WP l E d Y mc ms 0 (hg_lo Y.2.2.1 as) [] M Q) : hg_MC l E (d + 1) Y mc ms as M Q := by
  refine Met.ofW (cc := Y.2.1) (maxL := Y.2.2.1) (ret := Y.2.2.2) hk.2.2.2.2 rfl ?_
  intro p e s m args below meth c s₁ B hml hv
  obtain ⟨rfl, hrep, hkn, hz⟩ := hv
  have hts := atoms_spec (ws := hg_yw Y :: hg_T) B.pre
  have hl := lv_entry as (n := Y.2.2.1) hlen
  rw [lg_entry_eq]
  generalize (lg_sl as ++ List.replicate (Y.2.2.1 - (lg_sl as).length) Slot.unset).toArray = ls at hl ⊢
  refine h p e _ s m _ below meth c s.heap [] 0 0 _ ls ⟨B.exec, B.bytes, hml, findClass_of_methodNamed B.named, fun w hw => hts w (List.mem_cons_of_mem _ hw), fun hn => (name_of_methodNamed B.named B.method).1.trans hn⟩ hkn ⟨Nat.le_refl _, Nat.le_refl _, by show 0 + mc ≤ mc; omega, by show 0 + ms ≤ ms; omega⟩ hrep va_S.rf ⟨hg_lo_len as _ hlen, _, hl, fun i v hi => by have := hg_lo_in as _ 0 i v hi; rwa [Nat.zero_add] at this⟩ hz ?_
  intro pc ls H locs cells' slots' r M' hq hr hP hS hc hs
  have hr0 := B.returns
  have hlocks := B.notSynchronized
  refine W.widen (k := mc) (n := ms) (by omega) (by omega) ?_
  rcases hr with ⟨v, ty, rfl, h1, h2, h3⟩ | ⟨v, rfl, h1, h2⟩ | ⟨rfl, h1, h2⟩ | ⟨v, rt, rfl, hv, h1, h2, h3⟩
  · exact W.zret B.exec B.bytes (hr0.trans h2) h3 (fun t ht hW => ⟨⟨_, M', rfl, hq, by rw [ht]; exact hP⟩, hS.F ht⟩) hS.2.2 h1 hlocks
  · exact W.lret B.exec B.bytes (hr0.trans h2) (fun t ht hW => ⟨⟨_, M', rfl, hq, by rw [ht]; exact hP⟩, hS.F ht⟩) hS.2.2 h1 hlocks
  · exact W.vret B.exec B.bytes (hr0.trans h2) (fun t ht hW => ⟨⟨_, M', rfl, hq, by rw [ht]; exact hP⟩, hS.F ht⟩) hS.2.2 h1 hlocks
  · exact W.aret B.exec B.bytes (hr0.trans h2) h3 hv (fun t ht hW => ⟨⟨_, M', rfl, hq, by rw [ht]; exact hP⟩, hS.F ht⟩) hS.2.2 h1 hlocks
end HG3
end
section
-- decode rows, by wip/whole/gen_dec.py
theorem d_H_init_0 : hg_D Y_H_init 0 1 1 (.aload_n 0) := ⟨by decide +kernel, rfl⟩
theorem d_H_init_1 : hg_D Y_H_init 1 4 3 (.invokespecial 1) := ⟨by decide +kernel, rfl⟩
theorem d_H_init_4 : hg_D Y_H_init 4 5 1 (.aload_n 0) := ⟨by decide +kernel, rfl⟩
theorem d_H_init_5 : hg_D Y_H_init 5 6 1 (.iconst 4) := ⟨by decide +kernel, rfl⟩
theorem d_H_init_6 : hg_D Y_H_init 6 8 2 (.newarray .int) := ⟨by decide +kernel, rfl⟩
theorem d_H_init_8 : hg_D Y_H_init 8 11 3 (.putfield 7) := ⟨by decide +kernel, rfl⟩
theorem d_H_init_11 : hg_D Y_H_init 11 12 1 (.return_) := ⟨by decide +kernel, rfl⟩
theorem d_H_begin_0 : hg_D Y_H_begin 0 1 1 (.aload_n 0) := ⟨by decide +kernel, rfl⟩
theorem d_H_begin_1 : hg_D Y_H_begin 1 2 1 (.iload_n 1) := ⟨by decide +kernel, rfl⟩
theorem d_H_begin_2 : hg_D Y_H_begin 2 5 3 (.putfield 13) := ⟨by decide +kernel, rfl⟩
theorem d_H_begin_5 : hg_D Y_H_begin 5 6 1 (.aload_n 0) := ⟨by decide +kernel, rfl⟩
theorem d_H_begin_6 : hg_D Y_H_begin 6 7 1 (.iload_n 2) := ⟨by decide +kernel, rfl⟩
theorem d_H_begin_7 : hg_D Y_H_begin 7 10 3 (.putfield 17) := ⟨by decide +kernel, rfl⟩
theorem d_H_begin_10 : hg_D Y_H_begin 10 11 1 (.aload_n 0) := ⟨by decide +kernel, rfl⟩
theorem d_H_begin_11 : hg_D Y_H_begin 11 12 1 (.iload_n 3) := ⟨by decide +kernel, rfl⟩
theorem d_H_begin_12 : hg_D Y_H_begin 12 15 3 (.putfield 20) := ⟨by decide +kernel, rfl⟩
theorem d_H_begin_15 : hg_D Y_H_begin 15 16 1 (.aload_n 0) := ⟨by decide +kernel, rfl⟩
theorem d_H_begin_16 : hg_D Y_H_begin 16 17 1 (.iconst 0) := ⟨by decide +kernel, rfl⟩
theorem d_H_begin_17 : hg_D Y_H_begin 17 20 3 (.putfield 23) := ⟨by decide +kernel, rfl⟩
theorem d_H_begin_20 : hg_D Y_H_begin 20 21 1 (.aload_n 0) := ⟨by decide +kernel, rfl⟩
theorem d_H_begin_21 : hg_D Y_H_begin 21 22 1 (.iconst 0) := ⟨by decide +kernel, rfl⟩
theorem d_H_begin_22 : hg_D Y_H_begin 22 25 3 (.putfield 26) := ⟨by decide +kernel, rfl⟩
theorem d_H_begin_25 : hg_D Y_H_begin 25 26 1 (.aload_n 0) := ⟨by decide +kernel, rfl⟩
theorem d_H_begin_26 : hg_D Y_H_begin 26 27 1 (.iconst 0) := ⟨by decide +kernel, rfl⟩
theorem d_H_begin_27 : hg_D Y_H_begin 27 30 3 (.putfield 29) := ⟨by decide +kernel, rfl⟩
theorem d_H_begin_30 : hg_D Y_H_begin 30 31 1 (.aload_n 0) := ⟨by decide +kernel, rfl⟩
theorem d_H_begin_31 : hg_D Y_H_begin 31 32 1 (.iconst 0) := ⟨by decide +kernel, rfl⟩
theorem d_H_begin_32 : hg_D Y_H_begin 32 35 3 (.putfield 32) := ⟨by decide +kernel, rfl⟩
theorem d_H_begin_35 : hg_D Y_H_begin 35 36 1 (.iconst 0) := ⟨by decide +kernel, rfl⟩
theorem d_H_begin_36 : hg_D Y_H_begin 36 38 2 (.istore 4) := ⟨by decide +kernel, rfl⟩
theorem d_H_begin_38 : hg_D Y_H_begin 38 40 2 (.iload 4) := ⟨by decide +kernel, rfl⟩
theorem d_H_begin_40 : hg_D Y_H_begin 40 41 1 (.aload_n 0) := ⟨by decide +kernel, rfl⟩
theorem d_H_begin_41 : hg_D Y_H_begin 41 44 3 (.getfield 7) := ⟨by decide +kernel, rfl⟩
theorem d_H_begin_44 : hg_D Y_H_begin 44 45 1 (.arraylength) := ⟨by decide +kernel, rfl⟩
theorem d_H_begin_45 : hg_D Y_H_begin 45 48 3 (.if_icmp .ge 17) := ⟨by decide +kernel, rfl⟩
theorem d_H_begin_48 : hg_D Y_H_begin 48 49 1 (.aload_n 0) := ⟨by decide +kernel, rfl⟩
theorem d_H_begin_49 : hg_D Y_H_begin 49 52 3 (.getfield 7) := ⟨by decide +kernel, rfl⟩
theorem d_H_begin_52 : hg_D Y_H_begin 52 54 2 (.iload 4) := ⟨by decide +kernel, rfl⟩
theorem d_H_begin_54 : hg_D Y_H_begin 54 55 1 (.iconst 0) := ⟨by decide +kernel, rfl⟩
theorem d_H_begin_55 : hg_D Y_H_begin 55 56 1 (.iastore) := ⟨by decide +kernel, rfl⟩
theorem d_H_begin_56 : hg_D Y_H_begin 56 59 3 (.iinc 4 1) := ⟨by decide +kernel, rfl⟩
theorem d_H_begin_59 : hg_D Y_H_begin 59 62 3 (.goto (-21)) := ⟨by decide +kernel, rfl⟩
theorem d_H_begin_62 : hg_D Y_H_begin 62 63 1 (.return_) := ⟨by decide +kernel, rfl⟩
theorem d_H_become_0 : hg_D Y_H_become 0 1 1 (.aload_n 0) := ⟨by decide +kernel, rfl⟩
theorem d_H_become_1 : hg_D Y_H_become 1 2 1 (.aload_n 1) := ⟨by decide +kernel, rfl⟩
theorem d_H_become_2 : hg_D Y_H_become 2 5 3 (.getfield 13) := ⟨by decide +kernel, rfl⟩
theorem d_H_become_5 : hg_D Y_H_become 5 8 3 (.putfield 13) := ⟨by decide +kernel, rfl⟩
theorem d_H_become_8 : hg_D Y_H_become 8 9 1 (.aload_n 0) := ⟨by decide +kernel, rfl⟩
theorem d_H_become_9 : hg_D Y_H_become 9 10 1 (.aload_n 1) := ⟨by decide +kernel, rfl⟩
theorem d_H_become_10 : hg_D Y_H_become 10 13 3 (.getfield 17) := ⟨by decide +kernel, rfl⟩
theorem d_H_become_13 : hg_D Y_H_become 13 16 3 (.putfield 17) := ⟨by decide +kernel, rfl⟩
theorem d_H_become_16 : hg_D Y_H_become 16 17 1 (.aload_n 0) := ⟨by decide +kernel, rfl⟩
theorem d_H_become_17 : hg_D Y_H_become 17 18 1 (.aload_n 1) := ⟨by decide +kernel, rfl⟩
theorem d_H_become_18 : hg_D Y_H_become 18 21 3 (.getfield 20) := ⟨by decide +kernel, rfl⟩
theorem d_H_become_21 : hg_D Y_H_become 21 24 3 (.putfield 20) := ⟨by decide +kernel, rfl⟩
theorem d_H_become_24 : hg_D Y_H_become 24 25 1 (.aload_n 0) := ⟨by decide +kernel, rfl⟩
theorem d_H_become_25 : hg_D Y_H_become 25 26 1 (.aload_n 1) := ⟨by decide +kernel, rfl⟩
theorem d_H_become_26 : hg_D Y_H_become 26 29 3 (.getfield 23) := ⟨by decide +kernel, rfl⟩
theorem d_H_become_29 : hg_D Y_H_become 29 32 3 (.putfield 23) := ⟨by decide +kernel, rfl⟩
theorem d_H_become_32 : hg_D Y_H_become 32 33 1 (.aload_n 0) := ⟨by decide +kernel, rfl⟩
theorem d_H_become_33 : hg_D Y_H_become 33 34 1 (.aload_n 1) := ⟨by decide +kernel, rfl⟩
theorem d_H_become_34 : hg_D Y_H_become 34 37 3 (.getfield 26) := ⟨by decide +kernel, rfl⟩
theorem d_H_become_37 : hg_D Y_H_become 37 40 3 (.putfield 26) := ⟨by decide +kernel, rfl⟩
theorem d_H_become_40 : hg_D Y_H_become 40 41 1 (.aload_n 0) := ⟨by decide +kernel, rfl⟩
theorem d_H_become_41 : hg_D Y_H_become 41 42 1 (.aload_n 1) := ⟨by decide +kernel, rfl⟩
theorem d_H_become_42 : hg_D Y_H_become 42 45 3 (.getfield 29) := ⟨by decide +kernel, rfl⟩
theorem d_H_become_45 : hg_D Y_H_become 45 48 3 (.putfield 29) := ⟨by decide +kernel, rfl⟩
theorem d_H_become_48 : hg_D Y_H_become 48 49 1 (.aload_n 0) := ⟨by decide +kernel, rfl⟩
theorem d_H_become_49 : hg_D Y_H_become 49 50 1 (.aload_n 1) := ⟨by decide +kernel, rfl⟩
theorem d_H_become_50 : hg_D Y_H_become 50 53 3 (.getfield 32) := ⟨by decide +kernel, rfl⟩
theorem d_H_become_53 : hg_D Y_H_become 53 56 3 (.putfield 32) := ⟨by decide +kernel, rfl⟩
theorem d_H_become_56 : hg_D Y_H_become 56 57 1 (.aload_n 1) := ⟨by decide +kernel, rfl⟩
theorem d_H_become_57 : hg_D Y_H_become 57 60 3 (.getfield 7) := ⟨by decide +kernel, rfl⟩
theorem d_H_become_60 : hg_D Y_H_become 60 61 1 (.iconst 0) := ⟨by decide +kernel, rfl⟩
theorem d_H_become_61 : hg_D Y_H_become 61 62 1 (.aload_n 0) := ⟨by decide +kernel, rfl⟩
theorem d_H_become_62 : hg_D Y_H_become 62 65 3 (.getfield 7) := ⟨by decide +kernel, rfl⟩
theorem d_H_become_65 : hg_D Y_H_become 65 66 1 (.iconst 0) := ⟨by decide +kernel, rfl⟩
theorem d_H_become_66 : hg_D Y_H_become 66 67 1 (.aload_n 0) := ⟨by decide +kernel, rfl⟩
theorem d_H_become_67 : hg_D Y_H_become 67 70 3 (.getfield 7) := ⟨by decide +kernel, rfl⟩
theorem d_H_become_70 : hg_D Y_H_become 70 71 1 (.arraylength) := ⟨by decide +kernel, rfl⟩
theorem d_H_become_71 : hg_D Y_H_become 71 74 3 (.invokestatic 36) := ⟨by decide +kernel, rfl⟩
theorem d_H_become_74 : hg_D Y_H_become 74 75 1 (.return_) := ⟨by decide +kernel, rfl⟩
theorem d_R_init_0 : hg_D Y_R_init 0 1 1 (.aload_n 0) := ⟨by decide +kernel, rfl⟩
theorem d_R_init_1 : hg_D Y_R_init 1 4 3 (.invokespecial 3) := ⟨by decide +kernel, rfl⟩
theorem d_R_init_4 : hg_D Y_R_init 4 5 1 (.aload_n 0) := ⟨by decide +kernel, rfl⟩
theorem d_R_init_5 : hg_D Y_R_init 5 7 2 (.bipush 100) := ⟨by decide +kernel, rfl⟩
theorem d_R_init_7 : hg_D Y_R_init 7 9 2 (.newarray .byte) := ⟨by decide +kernel, rfl⟩
theorem d_R_init_9 : hg_D Y_R_init 9 12 3 (.putfield 11) := ⟨by decide +kernel, rfl⟩
theorem d_R_init_12 : hg_D Y_R_init 12 13 1 (.aload_n 0) := ⟨by decide +kernel, rfl⟩
theorem d_R_init_13 : hg_D Y_R_init 13 15 2 (.bipush 100) := ⟨by decide +kernel, rfl⟩
theorem d_R_init_15 : hg_D Y_R_init 15 17 2 (.newarray .int) := ⟨by decide +kernel, rfl⟩
theorem d_R_init_17 : hg_D Y_R_init 17 20 3 (.putfield 15) := ⟨by decide +kernel, rfl⟩
theorem d_R_init_20 : hg_D Y_R_init 20 21 1 (.return_) := ⟨by decide +kernel, rfl⟩
theorem d_R_add_0 : hg_D Y_R_add 0 1 1 (.aload_n 0) := ⟨by decide +kernel, rfl⟩
theorem d_R_add_1 : hg_D Y_R_add 1 4 3 (.getfield 19) := ⟨by decide +kernel, rfl⟩
theorem d_R_add_4 : hg_D Y_R_add 4 6 2 (.bipush 100) := ⟨by decide +kernel, rfl⟩
theorem d_R_add_6 : hg_D Y_R_add 6 9 3 (.if_icmp .ne 6) := ⟨by decide +kernel, rfl⟩
theorem d_R_add_9 : hg_D Y_R_add 9 11 2 (.bipush (-4)) := ⟨by decide +kernel, rfl⟩
theorem d_R_add_11 : hg_D Y_R_add 11 12 1 (.ireturn) := ⟨by decide +kernel, rfl⟩
theorem d_R_add_12 : hg_D Y_R_add 12 13 1 (.aload_n 0) := ⟨by decide +kernel, rfl⟩
theorem d_R_add_13 : hg_D Y_R_add 13 16 3 (.getfield 11) := ⟨by decide +kernel, rfl⟩
theorem d_R_add_16 : hg_D Y_R_add 16 17 1 (.aload_n 0) := ⟨by decide +kernel, rfl⟩
theorem d_R_add_17 : hg_D Y_R_add 17 20 3 (.getfield 19) := ⟨by decide +kernel, rfl⟩
theorem d_R_add_20 : hg_D Y_R_add 20 21 1 (.iload_n 1) := ⟨by decide +kernel, rfl⟩
theorem d_R_add_21 : hg_D Y_R_add 21 22 1 (.i2b) := ⟨by decide +kernel, rfl⟩
theorem d_R_add_22 : hg_D Y_R_add 22 23 1 (.bastore) := ⟨by decide +kernel, rfl⟩
theorem d_R_add_23 : hg_D Y_R_add 23 24 1 (.aload_n 0) := ⟨by decide +kernel, rfl⟩
theorem d_R_add_24 : hg_D Y_R_add 24 25 1 (.dup) := ⟨by decide +kernel, rfl⟩
theorem d_R_add_25 : hg_D Y_R_add 25 28 3 (.getfield 19) := ⟨by decide +kernel, rfl⟩
theorem d_R_add_28 : hg_D Y_R_add 28 29 1 (.iconst 1) := ⟨by decide +kernel, rfl⟩
theorem d_R_add_29 : hg_D Y_R_add 29 30 1 (.iadd) := ⟨by decide +kernel, rfl⟩
theorem d_R_add_30 : hg_D Y_R_add 30 33 3 (.putfield 19) := ⟨by decide +kernel, rfl⟩
theorem d_R_add_33 : hg_D Y_R_add 33 34 1 (.aload_n 0) := ⟨by decide +kernel, rfl⟩
theorem d_R_add_34 : hg_D Y_R_add 34 37 3 (.getfield 19) := ⟨by decide +kernel, rfl⟩
theorem d_R_add_37 : hg_D Y_R_add 37 38 1 (.ireturn) := ⟨by decide +kernel, rfl⟩
theorem d_R_place_0 : hg_D Y_R_place 0 1 1 (.aload_n 0) := ⟨by decide +kernel, rfl⟩
theorem d_R_place_1 : hg_D Y_R_place 1 4 3 (.getfield 23) := ⟨by decide +kernel, rfl⟩
theorem d_R_place_4 : hg_D Y_R_place 4 5 1 (.ireturn) := ⟨by decide +kernel, rfl⟩
theorem d_R_understand_0 : hg_D Y_R_understand 0 1 1 (.aload_n 0) := ⟨by decide +kernel, rfl⟩
theorem d_R_understand_1 : hg_D Y_R_understand 1 2 1 (.iconst 0) := ⟨by decide +kernel, rfl⟩
theorem d_R_understand_2 : hg_D Y_R_understand 2 5 3 (.putfield 23) := ⟨by decide +kernel, rfl⟩
theorem d_R_understand_5 : hg_D Y_R_understand 5 6 1 (.aload_n 0) := ⟨by decide +kernel, rfl⟩
theorem d_R_understand_6 : hg_D Y_R_understand 6 7 1 (.iconst 0) := ⟨by decide +kernel, rfl⟩
theorem d_R_understand_7 : hg_D Y_R_understand 7 10 3 (.putfield 26) := ⟨by decide +kernel, rfl⟩
theorem d_R_understand_10 : hg_D Y_R_understand 10 11 1 (.aload_n 0) := ⟨by decide +kernel, rfl⟩
theorem d_R_understand_11 : hg_D Y_R_understand 11 13 2 (.bipush 60) := ⟨by decide +kernel, rfl⟩
theorem d_R_understand_13 : hg_D Y_R_understand 13 16 3 (.putfield 29) := ⟨by decide +kernel, rfl⟩
theorem d_R_understand_16 : hg_D Y_R_understand 16 17 1 (.aload_n 0) := ⟨by decide +kernel, rfl⟩
theorem d_R_understand_17 : hg_D Y_R_understand 17 20 3 (.invokevirtual 32) := ⟨by decide +kernel, rfl⟩
theorem d_R_understand_20 : hg_D Y_R_understand 20 21 1 (.istore_n 1) := ⟨by decide +kernel, rfl⟩
theorem d_R_understand_21 : hg_D Y_R_understand 21 22 1 (.iconst 1) := ⟨by decide +kernel, rfl⟩
theorem d_R_understand_22 : hg_D Y_R_understand 22 23 1 (.istore_n 2) := ⟨by decide +kernel, rfl⟩
theorem d_R_understand_23 : hg_D Y_R_understand 23 24 1 (.iload_n 2) := ⟨by decide +kernel, rfl⟩
theorem d_R_understand_24 : hg_D Y_R_understand 24 26 2 (.bipush 10) := ⟨by decide +kernel, rfl⟩
theorem d_R_understand_26 : hg_D Y_R_understand 26 29 3 (.if_icmp .ge 27) := ⟨by decide +kernel, rfl⟩
theorem d_R_understand_29 : hg_D Y_R_understand 29 30 1 (.iload_n 1) := ⟨by decide +kernel, rfl⟩
theorem d_R_understand_30 : hg_D Y_R_understand 30 33 3 (.ifCond .eq 23) := ⟨by decide +kernel, rfl⟩
theorem d_R_understand_33 : hg_D Y_R_understand 33 34 1 (.aload_n 0) := ⟨by decide +kernel, rfl⟩
theorem d_R_understand_34 : hg_D Y_R_understand 34 36 2 (.bipush 59) := ⟨by decide +kernel, rfl⟩
theorem d_R_understand_36 : hg_D Y_R_understand 36 39 3 (.invokevirtual 36) := ⟨by decide +kernel, rfl⟩
theorem d_R_understand_39 : hg_D Y_R_understand 39 42 3 (.ifCond .eq 14) := ⟨by decide +kernel, rfl⟩
theorem d_R_understand_42 : hg_D Y_R_understand 42 43 1 (.aload_n 0) := ⟨by decide +kernel, rfl⟩
theorem d_R_understand_43 : hg_D Y_R_understand 43 46 3 (.invokevirtual 32) := ⟨by decide +kernel, rfl⟩
theorem d_R_understand_46 : hg_D Y_R_understand 46 47 1 (.istore_n 1) := ⟨by decide +kernel, rfl⟩
theorem d_R_understand_47 : hg_D Y_R_understand 47 50 3 (.iinc 2 1) := ⟨by decide +kernel, rfl⟩
theorem d_R_understand_50 : hg_D Y_R_understand 50 53 3 (.goto (-27)) := ⟨by decide +kernel, rfl⟩
theorem d_R_understand_53 : hg_D Y_R_understand 53 54 1 (.iload_n 1) := ⟨by decide +kernel, rfl⟩
theorem d_R_understand_54 : hg_D Y_R_understand 54 57 3 (.ifCond .eq 18) := ⟨by decide +kernel, rfl⟩
theorem d_R_understand_57 : hg_D Y_R_understand 57 58 1 (.aload_n 0) := ⟨by decide +kernel, rfl⟩
theorem d_R_understand_58 : hg_D Y_R_understand 58 61 3 (.getfield 23) := ⟨by decide +kernel, rfl⟩
theorem d_R_understand_61 : hg_D Y_R_understand 61 62 1 (.aload_n 0) := ⟨by decide +kernel, rfl⟩
theorem d_R_understand_62 : hg_D Y_R_understand 62 65 3 (.getfield 19) := ⟨by decide +kernel, rfl⟩
theorem d_R_understand_65 : hg_D Y_R_understand 65 68 3 (.if_icmp .ne 7) := ⟨by decide +kernel, rfl⟩
theorem d_R_understand_68 : hg_D Y_R_understand 68 69 1 (.iconst 1) := ⟨by decide +kernel, rfl⟩
theorem d_R_understand_69 : hg_D Y_R_understand 69 72 3 (.goto 4) := ⟨by decide +kernel, rfl⟩
theorem d_R_understand_72 : hg_D Y_R_understand 72 73 1 (.iconst 0) := ⟨by decide +kernel, rfl⟩
theorem d_R_understand_73 : hg_D Y_R_understand 73 74 1 (.istore_n 1) := ⟨by decide +kernel, rfl⟩
theorem d_R_understand_74 : hg_D Y_R_understand 74 75 1 (.aload_n 0) := ⟨by decide +kernel, rfl⟩
theorem d_R_understand_75 : hg_D Y_R_understand 75 76 1 (.iconst 0) := ⟨by decide +kernel, rfl⟩
theorem d_R_understand_76 : hg_D Y_R_understand 76 79 3 (.putfield 19) := ⟨by decide +kernel, rfl⟩
theorem d_R_understand_79 : hg_D Y_R_understand 79 80 1 (.iload_n 1) := ⟨by decide +kernel, rfl⟩
theorem d_R_understand_80 : hg_D Y_R_understand 80 83 3 (.ifCond .eq 25) := ⟨by decide +kernel, rfl⟩
theorem d_R_understand_83 : hg_D Y_R_understand 83 86 3 (.new 40) := ⟨by decide +kernel, rfl⟩
theorem d_R_understand_86 : hg_D Y_R_understand 86 87 1 (.dup) := ⟨by decide +kernel, rfl⟩
theorem d_R_understand_87 : hg_D Y_R_understand 87 88 1 (.aload_n 0) := ⟨by decide +kernel, rfl⟩
theorem d_R_understand_88 : hg_D Y_R_understand 88 91 3 (.getfield 15) := ⟨by decide +kernel, rfl⟩
theorem d_R_understand_91 : hg_D Y_R_understand 91 92 1 (.aload_n 0) := ⟨by decide +kernel, rfl⟩
theorem d_R_understand_92 : hg_D Y_R_understand 92 95 3 (.getfield 26) := ⟨by decide +kernel, rfl⟩
theorem d_R_understand_95 : hg_D Y_R_understand 95 96 1 (.aload_n 0) := ⟨by decide +kernel, rfl⟩
theorem d_R_understand_96 : hg_D Y_R_understand 96 99 3 (.getfield 29) := ⟨by decide +kernel, rfl⟩
theorem d_R_understand_99 : hg_D Y_R_understand 99 102 3 (.invokespecial 42) := ⟨by decide +kernel, rfl⟩
theorem d_R_understand_102 : hg_D Y_R_understand 102 105 3 (.goto 4) := ⟨by decide +kernel, rfl⟩
theorem d_R_understand_105 : hg_D Y_R_understand 105 106 1 (.aconst_null) := ⟨by decide +kernel, rfl⟩
theorem d_R_understand_106 : hg_D Y_R_understand 106 107 1 (.areturn) := ⟨by decide +kernel, rfl⟩
theorem d_R_clause_0 : hg_D Y_R_clause 0 1 1 (.aload_n 0) := ⟨by decide +kernel, rfl⟩
theorem d_R_clause_1 : hg_D Y_R_clause 1 4 3 (.getfield 23) := ⟨by decide +kernel, rfl⟩
theorem d_R_clause_4 : hg_D Y_R_clause 4 5 1 (.aload_n 0) := ⟨by decide +kernel, rfl⟩
theorem d_R_clause_5 : hg_D Y_R_clause 5 8 3 (.getfield 19) := ⟨by decide +kernel, rfl⟩
theorem d_R_clause_8 : hg_D Y_R_clause 8 11 3 (.if_icmp .ge 16) := ⟨by decide +kernel, rfl⟩
theorem d_R_clause_11 : hg_D Y_R_clause 11 12 1 (.aload_n 0) := ⟨by decide +kernel, rfl⟩
theorem d_R_clause_12 : hg_D Y_R_clause 12 15 3 (.getfield 11) := ⟨by decide +kernel, rfl⟩
theorem d_R_clause_15 : hg_D Y_R_clause 15 16 1 (.aload_n 0) := ⟨by decide +kernel, rfl⟩
theorem d_R_clause_16 : hg_D Y_R_clause 16 19 3 (.getfield 23) := ⟨by decide +kernel, rfl⟩
theorem d_R_clause_19 : hg_D Y_R_clause 19 20 1 (.baload) := ⟨by decide +kernel, rfl⟩
theorem d_R_clause_20 : hg_D Y_R_clause 20 21 1 (.i2c) := ⟨by decide +kernel, rfl⟩
theorem d_R_clause_21 : hg_D Y_R_clause 21 24 3 (.goto 4) := ⟨by decide +kernel, rfl⟩
theorem d_R_clause_24 : hg_D Y_R_clause 24 25 1 (.iconst 0) := ⟨by decide +kernel, rfl⟩
theorem d_R_clause_25 : hg_D Y_R_clause 25 26 1 (.istore_n 1) := ⟨by decide +kernel, rfl⟩
theorem d_R_clause_26 : hg_D Y_R_clause 26 27 1 (.iload_n 1) := ⟨by decide +kernel, rfl⟩
theorem d_R_clause_27 : hg_D Y_R_clause 27 29 2 (.bipush 105) := ⟨by decide +kernel, rfl⟩
theorem d_R_clause_29 : hg_D Y_R_clause 29 32 3 (.if_icmp .ne 31) := ⟨by decide +kernel, rfl⟩
theorem d_R_clause_32 : hg_D Y_R_clause 32 33 1 (.aload_n 0) := ⟨by decide +kernel, rfl⟩
theorem d_R_clause_33 : hg_D Y_R_clause 33 35 2 (.ldc 45) := ⟨by decide +kernel, rfl⟩
theorem d_R_clause_35 : hg_D Y_R_clause 35 38 3 (.invokevirtual 47) := ⟨by decide +kernel, rfl⟩
theorem d_R_clause_38 : hg_D Y_R_clause 38 41 3 (.ifCond .eq 10) := ⟨by decide +kernel, rfl⟩
theorem d_R_clause_41 : hg_D Y_R_clause 41 42 1 (.aload_n 0) := ⟨by decide +kernel, rfl⟩
theorem d_R_clause_42 : hg_D Y_R_clause 42 45 3 (.invokevirtual 51) := ⟨by decide +kernel, rfl⟩
theorem d_R_clause_45 : hg_D Y_R_clause 45 48 3 (.ifCond .ne 5) := ⟨by decide +kernel, rfl⟩
theorem d_R_clause_48 : hg_D Y_R_clause 48 49 1 (.iconst 0) := ⟨by decide +kernel, rfl⟩
theorem d_R_clause_49 : hg_D Y_R_clause 49 50 1 (.ireturn) := ⟨by decide +kernel, rfl⟩
theorem d_R_clause_50 : hg_D Y_R_clause 50 51 1 (.aload_n 0) := ⟨by decide +kernel, rfl⟩
theorem d_R_clause_51 : hg_D Y_R_clause 51 52 1 (.aload_n 0) := ⟨by decide +kernel, rfl⟩
theorem d_R_clause_52 : hg_D Y_R_clause 52 55 3 (.getfield 54) := ⟨by decide +kernel, rfl⟩
theorem d_R_clause_55 : hg_D Y_R_clause 55 58 3 (.putfield 29) := ⟨by decide +kernel, rfl⟩
theorem d_R_clause_58 : hg_D Y_R_clause 58 59 1 (.iconst 1) := ⟨by decide +kernel, rfl⟩
theorem d_R_clause_59 : hg_D Y_R_clause 59 60 1 (.ireturn) := ⟨by decide +kernel, rfl⟩
theorem d_R_clause_60 : hg_D Y_R_clause 60 61 1 (.iload_n 1) := ⟨by decide +kernel, rfl⟩
theorem d_R_clause_61 : hg_D Y_R_clause 61 63 2 (.bipush 102) := ⟨by decide +kernel, rfl⟩
theorem d_R_clause_63 : hg_D Y_R_clause 63 66 3 (.if_icmp .ne 7) := ⟨by decide +kernel, rfl⟩
theorem d_R_clause_66 : hg_D Y_R_clause 66 67 1 (.iconst 1) := ⟨by decide +kernel, rfl⟩
theorem d_R_clause_67 : hg_D Y_R_clause 67 70 3 (.goto 4) := ⟨by decide +kernel, rfl⟩
theorem d_R_clause_70 : hg_D Y_R_clause 70 71 1 (.iconst 0) := ⟨by decide +kernel, rfl⟩
theorem d_R_clause_71 : hg_D Y_R_clause 71 72 1 (.istore_n 2) := ⟨by decide +kernel, rfl⟩
theorem d_R_clause_72 : hg_D Y_R_clause 72 73 1 (.aload_n 0) := ⟨by decide +kernel, rfl⟩
theorem d_R_clause_73 : hg_D Y_R_clause 73 74 1 (.iload_n 2) := ⟨by decide +kernel, rfl⟩
theorem d_R_clause_74 : hg_D Y_R_clause 74 77 3 (.ifCond .eq 8) := ⟨by decide +kernel, rfl⟩
theorem d_R_clause_77 : hg_D Y_R_clause 77 79 2 (.ldc 56) := ⟨by decide +kernel, rfl⟩
theorem d_R_clause_79 : hg_D Y_R_clause 79 82 3 (.goto 5) := ⟨by decide +kernel, rfl⟩
theorem d_R_clause_82 : hg_D Y_R_clause 82 84 2 (.ldc 58) := ⟨by decide +kernel, rfl⟩
theorem d_R_clause_84 : hg_D Y_R_clause 84 87 3 (.invokevirtual 47) := ⟨by decide +kernel, rfl⟩
theorem d_R_clause_87 : hg_D Y_R_clause 87 90 3 (.ifCond .eq 10) := ⟨by decide +kernel, rfl⟩
theorem d_R_clause_90 : hg_D Y_R_clause 90 91 1 (.aload_n 0) := ⟨by decide +kernel, rfl⟩
theorem d_R_clause_91 : hg_D Y_R_clause 91 94 3 (.invokevirtual 51) := ⟨by decide +kernel, rfl⟩
theorem d_R_clause_94 : hg_D Y_R_clause 94 97 3 (.ifCond .ne 5) := ⟨by decide +kernel, rfl⟩
theorem d_R_clause_97 : hg_D Y_R_clause 97 98 1 (.iconst 0) := ⟨by decide +kernel, rfl⟩
theorem d_R_clause_98 : hg_D Y_R_clause 98 99 1 (.ireturn) := ⟨by decide +kernel, rfl⟩
theorem d_R_clause_99 : hg_D Y_R_clause 99 100 1 (.aload_n 0) := ⟨by decide +kernel, rfl⟩
theorem d_R_clause_100 : hg_D Y_R_clause 100 103 3 (.getfield 54) := ⟨by decide +kernel, rfl⟩
theorem d_R_clause_103 : hg_D Y_R_clause 103 104 1 (.istore_n 3) := ⟨by decide +kernel, rfl⟩
theorem d_R_clause_104 : hg_D Y_R_clause 104 105 1 (.aload_n 0) := ⟨by decide +kernel, rfl⟩
theorem d_R_clause_105 : hg_D Y_R_clause 105 107 2 (.bipush 32) := ⟨by decide +kernel, rfl⟩
theorem d_R_clause_107 : hg_D Y_R_clause 107 110 3 (.invokevirtual 36) := ⟨by decide +kernel, rfl⟩
theorem d_R_clause_110 : hg_D Y_R_clause 110 113 3 (.ifCond .eq 11) := ⟨by decide +kernel, rfl⟩
theorem d_R_clause_113 : hg_D Y_R_clause 113 114 1 (.aload_n 0) := ⟨by decide +kernel, rfl⟩
theorem d_R_clause_114 : hg_D Y_R_clause 114 115 1 (.iconst 0) := ⟨by decide +kernel, rfl⟩
theorem d_R_clause_115 : hg_D Y_R_clause 115 118 3 (.invokevirtual 60) := ⟨by decide +kernel, rfl⟩
theorem d_R_clause_118 : hg_D Y_R_clause 118 121 3 (.ifCond .ne 5) := ⟨by decide +kernel, rfl⟩
theorem d_R_clause_121 : hg_D Y_R_clause 121 122 1 (.iconst 0) := ⟨by decide +kernel, rfl⟩
theorem d_R_clause_122 : hg_D Y_R_clause 122 123 1 (.ireturn) := ⟨by decide +kernel, rfl⟩
theorem d_R_clause_123 : hg_D Y_R_clause 123 124 1 (.aload_n 0) := ⟨by decide +kernel, rfl⟩
theorem d_R_clause_124 : hg_D Y_R_clause 124 125 1 (.iload_n 3) := ⟨by decide +kernel, rfl⟩
theorem d_R_clause_125 : hg_D Y_R_clause 125 126 1 (.iconst 0) := ⟨by decide +kernel, rfl⟩
theorem d_R_clause_126 : hg_D Y_R_clause 126 127 1 (.iload_n 2) := ⟨by decide +kernel, rfl⟩
theorem d_R_clause_127 : hg_D Y_R_clause 127 130 3 (.ifCond .eq 8) := ⟨by decide +kernel, rfl⟩
theorem d_R_clause_130 : hg_D Y_R_clause 130 132 2 (.bipush 6) := ⟨by decide +kernel, rfl⟩
theorem d_R_clause_132 : hg_D Y_R_clause 132 135 3 (.goto 5) := ⟨by decide +kernel, rfl⟩
theorem d_R_clause_135 : hg_D Y_R_clause 135 137 2 (.bipush 7) := ⟨by decide +kernel, rfl⟩
theorem d_R_clause_137 : hg_D Y_R_clause 137 140 3 (.invokevirtual 64) := ⟨by decide +kernel, rfl⟩
theorem d_R_clause_140 : hg_D Y_R_clause 140 141 1 (.iconst 1) := ⟨by decide +kernel, rfl⟩
theorem d_R_clause_141 : hg_D Y_R_clause 141 142 1 (.ireturn) := ⟨by decide +kernel, rfl⟩
theorem d_R_either_0 : hg_D Y_R_either 0 1 1 (.aload_n 0) := ⟨by decide +kernel, rfl⟩
theorem d_R_either_1 : hg_D Y_R_either 1 2 1 (.iload_n 1) := ⟨by decide +kernel, rfl⟩
theorem d_R_either_2 : hg_D Y_R_either 2 5 3 (.invokevirtual 68) := ⟨by decide +kernel, rfl⟩
theorem d_R_either_5 : hg_D Y_R_either 5 6 1 (.istore_n 2) := ⟨by decide +kernel, rfl⟩
theorem d_R_either_6 : hg_D Y_R_either 6 7 1 (.iconst 0) := ⟨by decide +kernel, rfl⟩
theorem d_R_either_7 : hg_D Y_R_either 7 8 1 (.istore_n 3) := ⟨by decide +kernel, rfl⟩
theorem d_R_either_8 : hg_D Y_R_either 8 9 1 (.iload_n 3) := ⟨by decide +kernel, rfl⟩
theorem d_R_either_9 : hg_D Y_R_either 9 11 2 (.bipush 100) := ⟨by decide +kernel, rfl⟩
theorem d_R_either_11 : hg_D Y_R_either 11 14 3 (.if_icmp .ge 35) := ⟨by decide +kernel, rfl⟩
theorem d_R_either_14 : hg_D Y_R_either 14 15 1 (.iload_n 2) := ⟨by decide +kernel, rfl⟩
theorem d_R_either_15 : hg_D Y_R_either 15 18 3 (.ifCond .eq 31) := ⟨by decide +kernel, rfl⟩
theorem d_R_either_18 : hg_D Y_R_either 18 19 1 (.aload_n 0) := ⟨by decide +kernel, rfl⟩
theorem d_R_either_19 : hg_D Y_R_either 19 21 2 (.bipush 124) := ⟨by decide +kernel, rfl⟩
theorem d_R_either_21 : hg_D Y_R_either 21 24 3 (.invokevirtual 36) := ⟨by decide +kernel, rfl⟩
theorem d_R_either_24 : hg_D Y_R_either 24 27 3 (.ifCond .eq 22) := ⟨by decide +kernel, rfl⟩
theorem d_R_either_27 : hg_D Y_R_either 27 28 1 (.aload_n 0) := ⟨by decide +kernel, rfl⟩
theorem d_R_either_28 : hg_D Y_R_either 28 29 1 (.iload_n 1) := ⟨by decide +kernel, rfl⟩
theorem d_R_either_29 : hg_D Y_R_either 29 32 3 (.invokevirtual 68) := ⟨by decide +kernel, rfl⟩
theorem d_R_either_32 : hg_D Y_R_either 32 33 1 (.istore_n 2) := ⟨by decide +kernel, rfl⟩
theorem d_R_either_33 : hg_D Y_R_either 33 34 1 (.aload_n 0) := ⟨by decide +kernel, rfl⟩
theorem d_R_either_34 : hg_D Y_R_either 34 35 1 (.iconst 0) := ⟨by decide +kernel, rfl⟩
theorem d_R_either_35 : hg_D Y_R_either 35 36 1 (.iconst 0) := ⟨by decide +kernel, rfl⟩
theorem d_R_either_36 : hg_D Y_R_either 36 37 1 (.iconst 5) := ⟨by decide +kernel, rfl⟩
theorem d_R_either_37 : hg_D Y_R_either 37 40 3 (.invokevirtual 64) := ⟨by decide +kernel, rfl⟩
theorem d_R_either_40 : hg_D Y_R_either 40 43 3 (.iinc 3 1) := ⟨by decide +kernel, rfl⟩
theorem d_R_either_43 : hg_D Y_R_either 43 46 3 (.goto (-35)) := ⟨by decide +kernel, rfl⟩
theorem d_R_either_46 : hg_D Y_R_either 46 47 1 (.iload_n 2) := ⟨by decide +kernel, rfl⟩
theorem d_R_either_47 : hg_D Y_R_either 47 48 1 (.ireturn) := ⟨by decide +kernel, rfl⟩
theorem d_R_both_0 : hg_D Y_R_both 0 1 1 (.aload_n 0) := ⟨by decide +kernel, rfl⟩
theorem d_R_both_1 : hg_D Y_R_both 1 2 1 (.iload_n 1) := ⟨by decide +kernel, rfl⟩
theorem d_R_both_2 : hg_D Y_R_both 2 5 3 (.invokevirtual 71) := ⟨by decide +kernel, rfl⟩
theorem d_R_both_5 : hg_D Y_R_both 5 6 1 (.istore_n 2) := ⟨by decide +kernel, rfl⟩
theorem d_R_both_6 : hg_D Y_R_both 6 7 1 (.iconst 0) := ⟨by decide +kernel, rfl⟩
theorem d_R_both_7 : hg_D Y_R_both 7 8 1 (.istore_n 3) := ⟨by decide +kernel, rfl⟩
theorem d_R_both_8 : hg_D Y_R_both 8 9 1 (.iload_n 3) := ⟨by decide +kernel, rfl⟩
theorem d_R_both_9 : hg_D Y_R_both 9 11 2 (.bipush 100) := ⟨by decide +kernel, rfl⟩
theorem d_R_both_11 : hg_D Y_R_both 11 14 3 (.if_icmp .ge 35) := ⟨by decide +kernel, rfl⟩
theorem d_R_both_14 : hg_D Y_R_both 14 15 1 (.iload_n 2) := ⟨by decide +kernel, rfl⟩
theorem d_R_both_15 : hg_D Y_R_both 15 18 3 (.ifCond .eq 31) := ⟨by decide +kernel, rfl⟩
theorem d_R_both_18 : hg_D Y_R_both 18 19 1 (.aload_n 0) := ⟨by decide +kernel, rfl⟩
theorem d_R_both_19 : hg_D Y_R_both 19 21 2 (.bipush 38) := ⟨by decide +kernel, rfl⟩
theorem d_R_both_21 : hg_D Y_R_both 21 24 3 (.invokevirtual 36) := ⟨by decide +kernel, rfl⟩
theorem d_R_both_24 : hg_D Y_R_both 24 27 3 (.ifCond .eq 22) := ⟨by decide +kernel, rfl⟩
theorem d_R_both_27 : hg_D Y_R_both 27 28 1 (.aload_n 0) := ⟨by decide +kernel, rfl⟩
theorem d_R_both_28 : hg_D Y_R_both 28 29 1 (.iload_n 1) := ⟨by decide +kernel, rfl⟩
theorem d_R_both_29 : hg_D Y_R_both 29 32 3 (.invokevirtual 71) := ⟨by decide +kernel, rfl⟩
theorem d_R_both_32 : hg_D Y_R_both 32 33 1 (.istore_n 2) := ⟨by decide +kernel, rfl⟩
theorem d_R_both_33 : hg_D Y_R_both 33 34 1 (.aload_n 0) := ⟨by decide +kernel, rfl⟩
theorem d_R_both_34 : hg_D Y_R_both 34 35 1 (.iconst 0) := ⟨by decide +kernel, rfl⟩
theorem d_R_both_35 : hg_D Y_R_both 35 36 1 (.iconst 0) := ⟨by decide +kernel, rfl⟩
theorem d_R_both_36 : hg_D Y_R_both 36 37 1 (.iconst 4) := ⟨by decide +kernel, rfl⟩
theorem d_R_both_37 : hg_D Y_R_both 37 40 3 (.invokevirtual 64) := ⟨by decide +kernel, rfl⟩
theorem d_R_both_40 : hg_D Y_R_both 40 43 3 (.iinc 3 1) := ⟨by decide +kernel, rfl⟩
theorem d_R_both_43 : hg_D Y_R_both 43 46 3 (.goto (-35)) := ⟨by decide +kernel, rfl⟩
theorem d_R_both_46 : hg_D Y_R_both 46 47 1 (.iload_n 2) := ⟨by decide +kernel, rfl⟩
theorem d_R_both_47 : hg_D Y_R_both 47 48 1 (.ireturn) := ⟨by decide +kernel, rfl⟩
theorem d_R_factor_0 : hg_D Y_R_factor 0 1 1 (.iload_n 1) := ⟨by decide +kernel, rfl⟩
theorem d_R_factor_1 : hg_D Y_R_factor 1 2 1 (.istore_n 2) := ⟨by decide +kernel, rfl⟩
theorem d_R_factor_2 : hg_D Y_R_factor 2 3 1 (.iload_n 2) := ⟨by decide +kernel, rfl⟩
theorem d_R_factor_3 : hg_D Y_R_factor 3 4 1 (.iconst 4) := ⟨by decide +kernel, rfl⟩
theorem d_R_factor_4 : hg_D Y_R_factor 4 7 3 (.if_icmp .ge 18) := ⟨by decide +kernel, rfl⟩
theorem d_R_factor_7 : hg_D Y_R_factor 7 8 1 (.aload_n 0) := ⟨by decide +kernel, rfl⟩
theorem d_R_factor_8 : hg_D Y_R_factor 8 10 2 (.bipush 33) := ⟨by decide +kernel, rfl⟩
theorem d_R_factor_10 : hg_D Y_R_factor 10 13 3 (.invokevirtual 36) := ⟨by decide +kernel, rfl⟩
theorem d_R_factor_13 : hg_D Y_R_factor 13 16 3 (.ifCond .eq 9) := ⟨by decide +kernel, rfl⟩
theorem d_R_factor_16 : hg_D Y_R_factor 16 19 3 (.iinc 2 1) := ⟨by decide +kernel, rfl⟩
theorem d_R_factor_19 : hg_D Y_R_factor 19 22 3 (.goto (-17)) := ⟨by decide +kernel, rfl⟩
theorem d_R_factor_22 : hg_D Y_R_factor 22 23 1 (.iload_n 2) := ⟨by decide +kernel, rfl⟩
theorem d_R_factor_23 : hg_D Y_R_factor 23 24 1 (.iconst 4) := ⟨by decide +kernel, rfl⟩
theorem d_R_factor_24 : hg_D Y_R_factor 24 27 3 (.if_icmp .ge 39) := ⟨by decide +kernel, rfl⟩
theorem d_R_factor_27 : hg_D Y_R_factor 27 28 1 (.aload_n 0) := ⟨by decide +kernel, rfl⟩
theorem d_R_factor_28 : hg_D Y_R_factor 28 30 2 (.bipush 40) := ⟨by decide +kernel, rfl⟩
theorem d_R_factor_30 : hg_D Y_R_factor 30 33 3 (.invokevirtual 36) := ⟨by decide +kernel, rfl⟩
theorem d_R_factor_33 : hg_D Y_R_factor 33 36 3 (.ifCond .eq 30) := ⟨by decide +kernel, rfl⟩
theorem d_R_factor_36 : hg_D Y_R_factor 36 37 1 (.aload_n 0) := ⟨by decide +kernel, rfl⟩
theorem d_R_factor_37 : hg_D Y_R_factor 37 38 1 (.iload_n 2) := ⟨by decide +kernel, rfl⟩
theorem d_R_factor_38 : hg_D Y_R_factor 38 39 1 (.iconst 1) := ⟨by decide +kernel, rfl⟩
theorem d_R_factor_39 : hg_D Y_R_factor 39 40 1 (.iadd) := ⟨by decide +kernel, rfl⟩
theorem d_R_factor_40 : hg_D Y_R_factor 40 43 3 (.invokevirtual 60) := ⟨by decide +kernel, rfl⟩
theorem d_R_factor_43 : hg_D Y_R_factor 43 46 3 (.ifCond .eq 16) := ⟨by decide +kernel, rfl⟩
theorem d_R_factor_46 : hg_D Y_R_factor 46 47 1 (.aload_n 0) := ⟨by decide +kernel, rfl⟩
theorem d_R_factor_47 : hg_D Y_R_factor 47 49 2 (.bipush 41) := ⟨by decide +kernel, rfl⟩
theorem d_R_factor_49 : hg_D Y_R_factor 49 52 3 (.invokevirtual 36) := ⟨by decide +kernel, rfl⟩
theorem d_R_factor_52 : hg_D Y_R_factor 52 55 3 (.ifCond .eq 7) := ⟨by decide +kernel, rfl⟩
theorem d_R_factor_55 : hg_D Y_R_factor 55 56 1 (.iconst 1) := ⟨by decide +kernel, rfl⟩
theorem d_R_factor_56 : hg_D Y_R_factor 56 59 3 (.goto 11) := ⟨by decide +kernel, rfl⟩
theorem d_R_factor_59 : hg_D Y_R_factor 59 60 1 (.iconst 0) := ⟨by decide +kernel, rfl⟩
theorem d_R_factor_60 : hg_D Y_R_factor 60 63 3 (.goto 7) := ⟨by decide +kernel, rfl⟩
theorem d_R_factor_63 : hg_D Y_R_factor 63 64 1 (.aload_n 0) := ⟨by decide +kernel, rfl⟩
theorem d_R_factor_64 : hg_D Y_R_factor 64 67 3 (.invokevirtual 74) := ⟨by decide +kernel, rfl⟩
theorem d_R_factor_67 : hg_D Y_R_factor 67 68 1 (.istore_n 3) := ⟨by decide +kernel, rfl⟩
theorem d_R_factor_68 : hg_D Y_R_factor 68 69 1 (.iload_n 2) := ⟨by decide +kernel, rfl⟩
theorem d_R_factor_69 : hg_D Y_R_factor 69 70 1 (.iload_n 1) := ⟨by decide +kernel, rfl⟩
theorem d_R_factor_70 : hg_D Y_R_factor 70 71 1 (.isub) := ⟨by decide +kernel, rfl⟩
theorem d_R_factor_71 : hg_D Y_R_factor 71 72 1 (.iconst 2) := ⟨by decide +kernel, rfl⟩
theorem d_R_factor_72 : hg_D Y_R_factor 72 73 1 (.irem) := ⟨by decide +kernel, rfl⟩
theorem d_R_factor_73 : hg_D Y_R_factor 73 74 1 (.iconst 1) := ⟨by decide +kernel, rfl⟩
theorem d_R_factor_74 : hg_D Y_R_factor 74 77 3 (.if_icmp .ne 10) := ⟨by decide +kernel, rfl⟩
theorem d_R_factor_77 : hg_D Y_R_factor 77 78 1 (.aload_n 0) := ⟨by decide +kernel, rfl⟩
theorem d_R_factor_78 : hg_D Y_R_factor 78 79 1 (.iconst 0) := ⟨by decide +kernel, rfl⟩
theorem d_R_factor_79 : hg_D Y_R_factor 79 80 1 (.iconst 0) := ⟨by decide +kernel, rfl⟩
theorem d_R_factor_80 : hg_D Y_R_factor 80 81 1 (.iconst 3) := ⟨by decide +kernel, rfl⟩
theorem d_R_factor_81 : hg_D Y_R_factor 81 84 3 (.invokevirtual 64) := ⟨by decide +kernel, rfl⟩
theorem d_R_factor_84 : hg_D Y_R_factor 84 85 1 (.iload_n 3) := ⟨by decide +kernel, rfl⟩
theorem d_R_factor_85 : hg_D Y_R_factor 85 86 1 (.ireturn) := ⟨by decide +kernel, rfl⟩
theorem d_R_test_0 : hg_D Y_R_test 0 1 1 (.aload_n 0) := ⟨by decide +kernel, rfl⟩
theorem d_R_test_1 : hg_D Y_R_test 1 4 3 (.getfield 23) := ⟨by decide +kernel, rfl⟩
theorem d_R_test_4 : hg_D Y_R_test 4 5 1 (.aload_n 0) := ⟨by decide +kernel, rfl⟩
theorem d_R_test_5 : hg_D Y_R_test 5 8 3 (.getfield 19) := ⟨by decide +kernel, rfl⟩
theorem d_R_test_8 : hg_D Y_R_test 8 11 3 (.if_icmp .ge 21) := ⟨by decide +kernel, rfl⟩
theorem d_R_test_11 : hg_D Y_R_test 11 13 2 (.ldc 77) := ⟨by decide +kernel, rfl⟩
theorem d_R_test_13 : hg_D Y_R_test 13 14 1 (.aload_n 0) := ⟨by decide +kernel, rfl⟩
theorem d_R_test_14 : hg_D Y_R_test 14 17 3 (.getfield 11) := ⟨by decide +kernel, rfl⟩
theorem d_R_test_17 : hg_D Y_R_test 17 18 1 (.aload_n 0) := ⟨by decide +kernel, rfl⟩
theorem d_R_test_18 : hg_D Y_R_test 18 21 3 (.getfield 23) := ⟨by decide +kernel, rfl⟩
theorem d_R_test_21 : hg_D Y_R_test 21 22 1 (.baload) := ⟨by decide +kernel, rfl⟩
theorem d_R_test_22 : hg_D Y_R_test 22 23 1 (.i2c) := ⟨by decide +kernel, rfl⟩
theorem d_R_test_23 : hg_D Y_R_test 23 26 3 (.invokevirtual 79) := ⟨by decide +kernel, rfl⟩
theorem d_R_test_26 : hg_D Y_R_test 26 29 3 (.goto 4) := ⟨by decide +kernel, rfl⟩
theorem d_R_test_29 : hg_D Y_R_test 29 30 1 (.iconst (-1)) := ⟨by decide +kernel, rfl⟩
theorem d_R_test_30 : hg_D Y_R_test 30 31 1 (.istore_n 1) := ⟨by decide +kernel, rfl⟩
theorem d_R_test_31 : hg_D Y_R_test 31 32 1 (.iload_n 1) := ⟨by decide +kernel, rfl⟩
theorem d_R_test_32 : hg_D Y_R_test 32 35 3 (.ifCond .ge 5) := ⟨by decide +kernel, rfl⟩
theorem d_R_test_35 : hg_D Y_R_test 35 36 1 (.iconst 0) := ⟨by decide +kernel, rfl⟩
theorem d_R_test_36 : hg_D Y_R_test 36 37 1 (.ireturn) := ⟨by decide +kernel, rfl⟩
theorem d_R_test_37 : hg_D Y_R_test 37 38 1 (.aload_n 0) := ⟨by decide +kernel, rfl⟩
theorem d_R_test_38 : hg_D Y_R_test 38 39 1 (.dup) := ⟨by decide +kernel, rfl⟩
theorem d_R_test_39 : hg_D Y_R_test 39 42 3 (.getfield 23) := ⟨by decide +kernel, rfl⟩
theorem d_R_test_42 : hg_D Y_R_test 42 43 1 (.iconst 1) := ⟨by decide +kernel, rfl⟩
theorem d_R_test_43 : hg_D Y_R_test 43 44 1 (.iadd) := ⟨by decide +kernel, rfl⟩
theorem d_R_test_44 : hg_D Y_R_test 44 47 3 (.putfield 23) := ⟨by decide +kernel, rfl⟩
theorem d_R_test_47 : hg_D Y_R_test 47 48 1 (.aload_n 0) := ⟨by decide +kernel, rfl⟩
theorem d_R_test_48 : hg_D Y_R_test 48 51 3 (.getfield 23) := ⟨by decide +kernel, rfl⟩
theorem d_R_test_51 : hg_D Y_R_test 51 52 1 (.aload_n 0) := ⟨by decide +kernel, rfl⟩
theorem d_R_test_52 : hg_D Y_R_test 52 55 3 (.getfield 19) := ⟨by decide +kernel, rfl⟩
theorem d_R_test_55 : hg_D Y_R_test 55 58 3 (.if_icmp .ge 21) := ⟨by decide +kernel, rfl⟩
theorem d_R_test_58 : hg_D Y_R_test 58 60 2 (.ldc 85) := ⟨by decide +kernel, rfl⟩
theorem d_R_test_60 : hg_D Y_R_test 60 61 1 (.aload_n 0) := ⟨by decide +kernel, rfl⟩
theorem d_R_test_61 : hg_D Y_R_test 61 64 3 (.getfield 11) := ⟨by decide +kernel, rfl⟩
theorem d_R_test_64 : hg_D Y_R_test 64 65 1 (.aload_n 0) := ⟨by decide +kernel, rfl⟩
theorem d_R_test_65 : hg_D Y_R_test 65 68 3 (.getfield 23) := ⟨by decide +kernel, rfl⟩
theorem d_R_test_68 : hg_D Y_R_test 68 69 1 (.baload) := ⟨by decide +kernel, rfl⟩
theorem d_R_test_69 : hg_D Y_R_test 69 70 1 (.i2c) := ⟨by decide +kernel, rfl⟩
theorem d_R_test_70 : hg_D Y_R_test 70 73 3 (.invokevirtual 79) := ⟨by decide +kernel, rfl⟩
theorem d_R_test_73 : hg_D Y_R_test 73 76 3 (.goto 4) := ⟨by decide +kernel, rfl⟩
theorem d_R_test_76 : hg_D Y_R_test 76 77 1 (.iconst (-1)) := ⟨by decide +kernel, rfl⟩
theorem d_R_test_77 : hg_D Y_R_test 77 78 1 (.istore_n 2) := ⟨by decide +kernel, rfl⟩
theorem d_R_test_78 : hg_D Y_R_test 78 79 1 (.iload_n 2) := ⟨by decide +kernel, rfl⟩
theorem d_R_test_79 : hg_D Y_R_test 79 82 3 (.ifCond .ge 5) := ⟨by decide +kernel, rfl⟩
theorem d_R_test_82 : hg_D Y_R_test 82 83 1 (.iconst 0) := ⟨by decide +kernel, rfl⟩
theorem d_R_test_83 : hg_D Y_R_test 83 84 1 (.ireturn) := ⟨by decide +kernel, rfl⟩
theorem d_R_test_84 : hg_D Y_R_test 84 85 1 (.aload_n 0) := ⟨by decide +kernel, rfl⟩
theorem d_R_test_85 : hg_D Y_R_test 85 86 1 (.dup) := ⟨by decide +kernel, rfl⟩
theorem d_R_test_86 : hg_D Y_R_test 86 89 3 (.getfield 23) := ⟨by decide +kernel, rfl⟩
theorem d_R_test_89 : hg_D Y_R_test 89 90 1 (.iconst 1) := ⟨by decide +kernel, rfl⟩
theorem d_R_test_90 : hg_D Y_R_test 90 91 1 (.iadd) := ⟨by decide +kernel, rfl⟩
theorem d_R_test_91 : hg_D Y_R_test 91 94 3 (.putfield 23) := ⟨by decide +kernel, rfl⟩
theorem d_R_test_94 : hg_D Y_R_test 94 95 1 (.aload_n 0) := ⟨by decide +kernel, rfl⟩
theorem d_R_test_95 : hg_D Y_R_test 95 98 3 (.invokevirtual 51) := ⟨by decide +kernel, rfl⟩
theorem d_R_test_98 : hg_D Y_R_test 98 101 3 (.ifCond .ne 5) := ⟨by decide +kernel, rfl⟩
theorem d_R_test_101 : hg_D Y_R_test 101 102 1 (.iconst 0) := ⟨by decide +kernel, rfl⟩
theorem d_R_test_102 : hg_D Y_R_test 102 103 1 (.ireturn) := ⟨by decide +kernel, rfl⟩
theorem d_R_test_103 : hg_D Y_R_test 103 104 1 (.aload_n 0) := ⟨by decide +kernel, rfl⟩
theorem d_R_test_104 : hg_D Y_R_test 104 105 1 (.aload_n 0) := ⟨by decide +kernel, rfl⟩
theorem d_R_test_105 : hg_D Y_R_test 105 108 3 (.getfield 54) := ⟨by decide +kernel, rfl⟩
theorem d_R_test_108 : hg_D Y_R_test 108 109 1 (.iload_n 1) := ⟨by decide +kernel, rfl⟩
theorem d_R_test_109 : hg_D Y_R_test 109 110 1 (.iload_n 2) := ⟨by decide +kernel, rfl⟩
theorem d_R_test_110 : hg_D Y_R_test 110 113 3 (.invokevirtual 64) := ⟨by decide +kernel, rfl⟩
theorem d_R_test_113 : hg_D Y_R_test 113 114 1 (.iconst 1) := ⟨by decide +kernel, rfl⟩
theorem d_R_test_114 : hg_D Y_R_test 114 115 1 (.ireturn) := ⟨by decide +kernel, rfl⟩
theorem d_R_number_0 : hg_D Y_R_number 0 1 1 (.aload_n 0) := ⟨by decide +kernel, rfl⟩
theorem d_R_number_1 : hg_D Y_R_number 1 4 3 (.getfield 23) := ⟨by decide +kernel, rfl⟩
theorem d_R_number_4 : hg_D Y_R_number 4 5 1 (.istore_n 1) := ⟨by decide +kernel, rfl⟩
theorem d_R_number_5 : hg_D Y_R_number 5 6 1 (.aload_n 0) := ⟨by decide +kernel, rfl⟩
theorem d_R_number_6 : hg_D Y_R_number 6 7 1 (.iconst 0) := ⟨by decide +kernel, rfl⟩
theorem d_R_number_7 : hg_D Y_R_number 7 10 3 (.putfield 54) := ⟨by decide +kernel, rfl⟩
theorem d_R_number_10 : hg_D Y_R_number 10 11 1 (.iconst 0) := ⟨by decide +kernel, rfl⟩
theorem d_R_number_11 : hg_D Y_R_number 11 12 1 (.istore_n 2) := ⟨by decide +kernel, rfl⟩
theorem d_R_number_12 : hg_D Y_R_number 12 13 1 (.iload_n 2) := ⟨by decide +kernel, rfl⟩
theorem d_R_number_13 : hg_D Y_R_number 13 14 1 (.iconst 2) := ⟨by decide +kernel, rfl⟩
theorem d_R_number_14 : hg_D Y_R_number 14 17 3 (.if_icmp .ge 82) := ⟨by decide +kernel, rfl⟩
theorem d_R_number_17 : hg_D Y_R_number 17 18 1 (.aload_n 0) := ⟨by decide +kernel, rfl⟩
theorem d_R_number_18 : hg_D Y_R_number 18 21 3 (.getfield 23) := ⟨by decide +kernel, rfl⟩
theorem d_R_number_21 : hg_D Y_R_number 21 22 1 (.aload_n 0) := ⟨by decide +kernel, rfl⟩
theorem d_R_number_22 : hg_D Y_R_number 22 25 3 (.getfield 19) := ⟨by decide +kernel, rfl⟩
theorem d_R_number_25 : hg_D Y_R_number 25 28 3 (.if_icmp .ge 71) := ⟨by decide +kernel, rfl⟩
theorem d_R_number_28 : hg_D Y_R_number 28 29 1 (.aload_n 0) := ⟨by decide +kernel, rfl⟩
theorem d_R_number_29 : hg_D Y_R_number 29 32 3 (.getfield 11) := ⟨by decide +kernel, rfl⟩
theorem d_R_number_32 : hg_D Y_R_number 32 33 1 (.aload_n 0) := ⟨by decide +kernel, rfl⟩
theorem d_R_number_33 : hg_D Y_R_number 33 36 3 (.getfield 23) := ⟨by decide +kernel, rfl⟩
theorem d_R_number_36 : hg_D Y_R_number 36 37 1 (.baload) := ⟨by decide +kernel, rfl⟩
theorem d_R_number_37 : hg_D Y_R_number 37 39 2 (.bipush 48) := ⟨by decide +kernel, rfl⟩
theorem d_R_number_39 : hg_D Y_R_number 39 42 3 (.if_icmp .lt 57) := ⟨by decide +kernel, rfl⟩
theorem d_R_number_42 : hg_D Y_R_number 42 43 1 (.aload_n 0) := ⟨by decide +kernel, rfl⟩
theorem d_R_number_43 : hg_D Y_R_number 43 46 3 (.getfield 11) := ⟨by decide +kernel, rfl⟩
theorem d_R_number_46 : hg_D Y_R_number 46 47 1 (.aload_n 0) := ⟨by decide +kernel, rfl⟩
theorem d_R_number_47 : hg_D Y_R_number 47 50 3 (.getfield 23) := ⟨by decide +kernel, rfl⟩
theorem d_R_number_50 : hg_D Y_R_number 50 51 1 (.baload) := ⟨by decide +kernel, rfl⟩
theorem d_R_number_51 : hg_D Y_R_number 51 53 2 (.bipush 57) := ⟨by decide +kernel, rfl⟩
theorem d_R_number_53 : hg_D Y_R_number 53 56 3 (.if_icmp .gt 43) := ⟨by decide +kernel, rfl⟩
theorem d_R_number_56 : hg_D Y_R_number 56 57 1 (.aload_n 0) := ⟨by decide +kernel, rfl⟩
theorem d_R_number_57 : hg_D Y_R_number 57 59 2 (.bipush 10) := ⟨by decide +kernel, rfl⟩
theorem d_R_number_59 : hg_D Y_R_number 59 60 1 (.aload_n 0) := ⟨by decide +kernel, rfl⟩
theorem d_R_number_60 : hg_D Y_R_number 60 63 3 (.getfield 54) := ⟨by decide +kernel, rfl⟩
theorem d_R_number_63 : hg_D Y_R_number 63 64 1 (.imul) := ⟨by decide +kernel, rfl⟩
theorem d_R_number_64 : hg_D Y_R_number 64 65 1 (.aload_n 0) := ⟨by decide +kernel, rfl⟩
theorem d_R_number_65 : hg_D Y_R_number 65 68 3 (.getfield 11) := ⟨by decide +kernel, rfl⟩
theorem d_R_number_68 : hg_D Y_R_number 68 69 1 (.aload_n 0) := ⟨by decide +kernel, rfl⟩
theorem d_R_number_69 : hg_D Y_R_number 69 72 3 (.getfield 23) := ⟨by decide +kernel, rfl⟩
theorem d_R_number_72 : hg_D Y_R_number 72 73 1 (.baload) := ⟨by decide +kernel, rfl⟩
theorem d_R_number_73 : hg_D Y_R_number 73 74 1 (.iadd) := ⟨by decide +kernel, rfl⟩
theorem d_R_number_74 : hg_D Y_R_number 74 76 2 (.bipush 48) := ⟨by decide +kernel, rfl⟩
theorem d_R_number_76 : hg_D Y_R_number 76 77 1 (.isub) := ⟨by decide +kernel, rfl⟩
theorem d_R_number_77 : hg_D Y_R_number 77 80 3 (.putfield 54) := ⟨by decide +kernel, rfl⟩
theorem d_R_number_80 : hg_D Y_R_number 80 81 1 (.aload_n 0) := ⟨by decide +kernel, rfl⟩
theorem d_R_number_81 : hg_D Y_R_number 81 82 1 (.dup) := ⟨by decide +kernel, rfl⟩
theorem d_R_number_82 : hg_D Y_R_number 82 85 3 (.getfield 23) := ⟨by decide +kernel, rfl⟩
theorem d_R_number_85 : hg_D Y_R_number 85 86 1 (.iconst 1) := ⟨by decide +kernel, rfl⟩
theorem d_R_number_86 : hg_D Y_R_number 86 87 1 (.iadd) := ⟨by decide +kernel, rfl⟩
theorem d_R_number_87 : hg_D Y_R_number 87 90 3 (.putfield 23) := ⟨by decide +kernel, rfl⟩
theorem d_R_number_90 : hg_D Y_R_number 90 93 3 (.iinc 2 1) := ⟨by decide +kernel, rfl⟩
theorem d_R_number_93 : hg_D Y_R_number 93 96 3 (.goto (-81)) := ⟨by decide +kernel, rfl⟩
theorem d_R_number_96 : hg_D Y_R_number 96 97 1 (.aload_n 0) := ⟨by decide +kernel, rfl⟩
theorem d_R_number_97 : hg_D Y_R_number 97 100 3 (.getfield 23) := ⟨by decide +kernel, rfl⟩
theorem d_R_number_100 : hg_D Y_R_number 100 101 1 (.iload_n 1) := ⟨by decide +kernel, rfl⟩
theorem d_R_number_101 : hg_D Y_R_number 101 104 3 (.if_icmp .le 7) := ⟨by decide +kernel, rfl⟩
theorem d_R_number_104 : hg_D Y_R_number 104 105 1 (.iconst 1) := ⟨by decide +kernel, rfl⟩
theorem d_R_number_105 : hg_D Y_R_number 105 108 3 (.goto 4) := ⟨by decide +kernel, rfl⟩
theorem d_R_number_108 : hg_D Y_R_number 108 109 1 (.iconst 0) := ⟨by decide +kernel, rfl⟩
theorem d_R_number_109 : hg_D Y_R_number 109 110 1 (.ireturn) := ⟨by decide +kernel, rfl⟩
theorem d_R_word_0 : hg_D Y_R_word 0 1 1 (.iconst 0) := ⟨by decide +kernel, rfl⟩
theorem d_R_word_1 : hg_D Y_R_word 1 2 1 (.istore_n 2) := ⟨by decide +kernel, rfl⟩
theorem d_R_word_2 : hg_D Y_R_word 2 3 1 (.iload_n 2) := ⟨by decide +kernel, rfl⟩
theorem d_R_word_3 : hg_D Y_R_word 3 4 1 (.aload_n 1) := ⟨by decide +kernel, rfl⟩
theorem d_R_word_4 : hg_D Y_R_word 4 7 3 (.invokevirtual 87) := ⟨by decide +kernel, rfl⟩
theorem d_R_word_7 : hg_D Y_R_word 7 10 3 (.if_icmp .ge 23) := ⟨by decide +kernel, rfl⟩
theorem d_R_word_10 : hg_D Y_R_word 10 11 1 (.aload_n 0) := ⟨by decide +kernel, rfl⟩
theorem d_R_word_11 : hg_D Y_R_word 11 12 1 (.aload_n 1) := ⟨by decide +kernel, rfl⟩
theorem d_R_word_12 : hg_D Y_R_word 12 13 1 (.iload_n 2) := ⟨by decide +kernel, rfl⟩
theorem d_R_word_13 : hg_D Y_R_word 13 16 3 (.invokevirtual 91) := ⟨by decide +kernel, rfl⟩
theorem d_R_word_16 : hg_D Y_R_word 16 19 3 (.invokevirtual 36) := ⟨by decide +kernel, rfl⟩
theorem d_R_word_19 : hg_D Y_R_word 19 22 3 (.ifCond .ne 5) := ⟨by decide +kernel, rfl⟩
theorem d_R_word_22 : hg_D Y_R_word 22 23 1 (.iconst 0) := ⟨by decide +kernel, rfl⟩
theorem d_R_word_23 : hg_D Y_R_word 23 24 1 (.ireturn) := ⟨by decide +kernel, rfl⟩
theorem d_R_word_24 : hg_D Y_R_word 24 27 3 (.iinc 2 1) := ⟨by decide +kernel, rfl⟩
theorem d_R_word_27 : hg_D Y_R_word 27 30 3 (.goto (-25)) := ⟨by decide +kernel, rfl⟩
theorem d_R_word_30 : hg_D Y_R_word 30 31 1 (.iconst 1) := ⟨by decide +kernel, rfl⟩
theorem d_R_word_31 : hg_D Y_R_word 31 32 1 (.ireturn) := ⟨by decide +kernel, rfl⟩
theorem d_R_sign_0 : hg_D Y_R_sign 0 1 1 (.aload_n 0) := ⟨by decide +kernel, rfl⟩
theorem d_R_sign_1 : hg_D Y_R_sign 1 4 3 (.getfield 23) := ⟨by decide +kernel, rfl⟩
theorem d_R_sign_4 : hg_D Y_R_sign 4 5 1 (.aload_n 0) := ⟨by decide +kernel, rfl⟩
theorem d_R_sign_5 : hg_D Y_R_sign 5 8 3 (.getfield 19) := ⟨by decide +kernel, rfl⟩
theorem d_R_sign_8 : hg_D Y_R_sign 8 11 3 (.if_icmp .ge 16) := ⟨by decide +kernel, rfl⟩
theorem d_R_sign_11 : hg_D Y_R_sign 11 12 1 (.aload_n 0) := ⟨by decide +kernel, rfl⟩
theorem d_R_sign_12 : hg_D Y_R_sign 12 15 3 (.getfield 11) := ⟨by decide +kernel, rfl⟩
theorem d_R_sign_15 : hg_D Y_R_sign 15 16 1 (.aload_n 0) := ⟨by decide +kernel, rfl⟩
theorem d_R_sign_16 : hg_D Y_R_sign 16 19 3 (.getfield 23) := ⟨by decide +kernel, rfl⟩
theorem d_R_sign_19 : hg_D Y_R_sign 19 20 1 (.baload) := ⟨by decide +kernel, rfl⟩
theorem d_R_sign_20 : hg_D Y_R_sign 20 21 1 (.iload_n 1) := ⟨by decide +kernel, rfl⟩
theorem d_R_sign_21 : hg_D Y_R_sign 21 24 3 (.if_icmp .eq 5) := ⟨by decide +kernel, rfl⟩
theorem d_R_sign_24 : hg_D Y_R_sign 24 25 1 (.iconst 0) := ⟨by decide +kernel, rfl⟩
theorem d_R_sign_25 : hg_D Y_R_sign 25 26 1 (.ireturn) := ⟨by decide +kernel, rfl⟩
theorem d_R_sign_26 : hg_D Y_R_sign 26 27 1 (.aload_n 0) := ⟨by decide +kernel, rfl⟩
theorem d_R_sign_27 : hg_D Y_R_sign 27 28 1 (.dup) := ⟨by decide +kernel, rfl⟩
theorem d_R_sign_28 : hg_D Y_R_sign 28 31 3 (.getfield 23) := ⟨by decide +kernel, rfl⟩
theorem d_R_sign_31 : hg_D Y_R_sign 31 32 1 (.iconst 1) := ⟨by decide +kernel, rfl⟩
theorem d_R_sign_32 : hg_D Y_R_sign 32 33 1 (.iadd) := ⟨by decide +kernel, rfl⟩
theorem d_R_sign_33 : hg_D Y_R_sign 33 36 3 (.putfield 23) := ⟨by decide +kernel, rfl⟩
theorem d_R_sign_36 : hg_D Y_R_sign 36 37 1 (.iconst 1) := ⟨by decide +kernel, rfl⟩
theorem d_R_sign_37 : hg_D Y_R_sign 37 38 1 (.ireturn) := ⟨by decide +kernel, rfl⟩
theorem d_R_write_0 : hg_D Y_R_write 0 1 1 (.aload_n 0) := ⟨by decide +kernel, rfl⟩
theorem d_R_write_1 : hg_D Y_R_write 1 4 3 (.getfield 26) := ⟨by decide +kernel, rfl⟩
theorem d_R_write_4 : hg_D Y_R_write 4 6 2 (.bipush 100) := ⟨by decide +kernel, rfl⟩
theorem d_R_write_6 : hg_D Y_R_write 6 9 3 (.if_icmp .ne 4) := ⟨by decide +kernel, rfl⟩
theorem d_R_write_9 : hg_D Y_R_write 9 10 1 (.return_) := ⟨by decide +kernel, rfl⟩
theorem d_R_write_10 : hg_D Y_R_write 10 11 1 (.aload_n 0) := ⟨by decide +kernel, rfl⟩
theorem d_R_write_11 : hg_D Y_R_write 11 14 3 (.getfield 15) := ⟨by decide +kernel, rfl⟩
theorem d_R_write_14 : hg_D Y_R_write 14 15 1 (.aload_n 0) := ⟨by decide +kernel, rfl⟩
theorem d_R_write_15 : hg_D Y_R_write 15 18 3 (.getfield 26) := ⟨by decide +kernel, rfl⟩
theorem d_R_write_18 : hg_D Y_R_write 18 20 2 (.bipush 64) := ⟨by decide +kernel, rfl⟩
theorem d_R_write_20 : hg_D Y_R_write 20 21 1 (.iload_n 1) := ⟨by decide +kernel, rfl⟩
theorem d_R_write_21 : hg_D Y_R_write 21 22 1 (.imul) := ⟨by decide +kernel, rfl⟩
theorem d_R_write_22 : hg_D Y_R_write 22 24 2 (.bipush 8) := ⟨by decide +kernel, rfl⟩
theorem d_R_write_24 : hg_D Y_R_write 24 25 1 (.iload_n 2) := ⟨by decide +kernel, rfl⟩
theorem d_R_write_25 : hg_D Y_R_write 25 26 1 (.imul) := ⟨by decide +kernel, rfl⟩
theorem d_R_write_26 : hg_D Y_R_write 26 27 1 (.iadd) := ⟨by decide +kernel, rfl⟩
theorem d_R_write_27 : hg_D Y_R_write 27 28 1 (.iload_n 3) := ⟨by decide +kernel, rfl⟩
theorem d_R_write_28 : hg_D Y_R_write 28 29 1 (.iadd) := ⟨by decide +kernel, rfl⟩
theorem d_R_write_29 : hg_D Y_R_write 29 30 1 (.iastore) := ⟨by decide +kernel, rfl⟩
theorem d_R_write_30 : hg_D Y_R_write 30 31 1 (.aload_n 0) := ⟨by decide +kernel, rfl⟩
theorem d_R_write_31 : hg_D Y_R_write 31 32 1 (.dup) := ⟨by decide +kernel, rfl⟩
theorem d_R_write_32 : hg_D Y_R_write 32 35 3 (.getfield 26) := ⟨by decide +kernel, rfl⟩
theorem d_R_write_35 : hg_D Y_R_write 35 36 1 (.iconst 1) := ⟨by decide +kernel, rfl⟩
theorem d_R_write_36 : hg_D Y_R_write 36 37 1 (.iadd) := ⟨by decide +kernel, rfl⟩
theorem d_R_write_37 : hg_D Y_R_write 37 40 3 (.putfield 26) := ⟨by decide +kernel, rfl⟩
theorem d_R_write_40 : hg_D Y_R_write 40 41 1 (.return_) := ⟨by decide +kernel, rfl⟩
theorem d_W_init_0 : hg_D Y_W_init 0 1 1 (.aload_n 0) := ⟨by decide +kernel, rfl⟩
theorem d_W_init_1 : hg_D Y_W_init 1 4 3 (.invokespecial 3) := ⟨by decide +kernel, rfl⟩
theorem d_W_init_4 : hg_D Y_W_init 4 5 1 (.aload_n 0) := ⟨by decide +kernel, rfl⟩
theorem d_W_init_5 : hg_D Y_W_init 5 6 1 (.iload_n 1) := ⟨by decide +kernel, rfl⟩
theorem d_W_init_6 : hg_D Y_W_init 6 8 2 (.newarray .int) := ⟨by decide +kernel, rfl⟩
theorem d_W_init_8 : hg_D Y_W_init 8 11 3 (.putfield 9) := ⟨by decide +kernel, rfl⟩
theorem d_W_init_11 : hg_D Y_W_init 11 12 1 (.aload_n 0) := ⟨by decide +kernel, rfl⟩
theorem d_W_init_12 : hg_D Y_W_init 12 13 1 (.iload_n 1) := ⟨by decide +kernel, rfl⟩
theorem d_W_init_13 : hg_D Y_W_init 13 15 2 (.newarray .int) := ⟨by decide +kernel, rfl⟩
theorem d_W_init_15 : hg_D Y_W_init 15 18 3 (.putfield 15) := ⟨by decide +kernel, rfl⟩
theorem d_W_init_18 : hg_D Y_W_init 18 19 1 (.return_) := ⟨by decide +kernel, rfl⟩
theorem d_W_add_0 : hg_D Y_W_add 0 1 1 (.aload_n 0) := ⟨by decide +kernel, rfl⟩
theorem d_W_add_1 : hg_D Y_W_add 1 4 3 (.getfield 18) := ⟨by decide +kernel, rfl⟩
theorem d_W_add_4 : hg_D Y_W_add 4 5 1 (.aload_n 0) := ⟨by decide +kernel, rfl⟩
theorem d_W_add_5 : hg_D Y_W_add 5 8 3 (.getfield 9) := ⟨by decide +kernel, rfl⟩
theorem d_W_add_8 : hg_D Y_W_add 8 9 1 (.arraylength) := ⟨by decide +kernel, rfl⟩
theorem d_W_add_9 : hg_D Y_W_add 9 12 3 (.if_icmp .ne 6) := ⟨by decide +kernel, rfl⟩
theorem d_W_add_12 : hg_D Y_W_add 12 14 2 (.bipush (-4)) := ⟨by decide +kernel, rfl⟩
theorem d_W_add_14 : hg_D Y_W_add 14 15 1 (.ireturn) := ⟨by decide +kernel, rfl⟩
theorem d_W_add_15 : hg_D Y_W_add 15 16 1 (.aload_n 0) := ⟨by decide +kernel, rfl⟩
theorem d_W_add_16 : hg_D Y_W_add 16 19 3 (.getfield 9) := ⟨by decide +kernel, rfl⟩
theorem d_W_add_19 : hg_D Y_W_add 19 20 1 (.aload_n 0) := ⟨by decide +kernel, rfl⟩
theorem d_W_add_20 : hg_D Y_W_add 20 23 3 (.getfield 18) := ⟨by decide +kernel, rfl⟩
theorem d_W_add_23 : hg_D Y_W_add 23 24 1 (.iload_n 1) := ⟨by decide +kernel, rfl⟩
theorem d_W_add_24 : hg_D Y_W_add 24 25 1 (.iastore) := ⟨by decide +kernel, rfl⟩
theorem d_W_add_25 : hg_D Y_W_add 25 26 1 (.aload_n 0) := ⟨by decide +kernel, rfl⟩
theorem d_W_add_26 : hg_D Y_W_add 26 29 3 (.getfield 15) := ⟨by decide +kernel, rfl⟩
theorem d_W_add_29 : hg_D Y_W_add 29 30 1 (.aload_n 0) := ⟨by decide +kernel, rfl⟩
theorem d_W_add_30 : hg_D Y_W_add 30 33 3 (.getfield 18) := ⟨by decide +kernel, rfl⟩
theorem d_W_add_33 : hg_D Y_W_add 33 34 1 (.iload_n 2) := ⟨by decide +kernel, rfl⟩
theorem d_W_add_34 : hg_D Y_W_add 34 35 1 (.iastore) := ⟨by decide +kernel, rfl⟩
theorem d_W_add_35 : hg_D Y_W_add 35 36 1 (.aload_n 0) := ⟨by decide +kernel, rfl⟩
theorem d_W_add_36 : hg_D Y_W_add 36 37 1 (.dup) := ⟨by decide +kernel, rfl⟩
theorem d_W_add_37 : hg_D Y_W_add 37 40 3 (.getfield 18) := ⟨by decide +kernel, rfl⟩
theorem d_W_add_40 : hg_D Y_W_add 40 41 1 (.iconst 1) := ⟨by decide +kernel, rfl⟩
theorem d_W_add_41 : hg_D Y_W_add 41 42 1 (.iadd) := ⟨by decide +kernel, rfl⟩
theorem d_W_add_42 : hg_D Y_W_add 42 45 3 (.putfield 18) := ⟨by decide +kernel, rfl⟩
theorem d_W_add_45 : hg_D Y_W_add 45 46 1 (.aload_n 0) := ⟨by decide +kernel, rfl⟩
theorem d_W_add_46 : hg_D Y_W_add 46 49 3 (.getfield 18) := ⟨by decide +kernel, rfl⟩
theorem d_W_add_49 : hg_D Y_W_add 49 50 1 (.ireturn) := ⟨by decide +kernel, rfl⟩
theorem d_W_empty_0 : hg_D Y_W_empty 0 1 1 (.aload_n 0) := ⟨by decide +kernel, rfl⟩
theorem d_W_empty_1 : hg_D Y_W_empty 1 2 1 (.iconst 0) := ⟨by decide +kernel, rfl⟩
theorem d_W_empty_2 : hg_D Y_W_empty 2 5 3 (.putfield 18) := ⟨by decide +kernel, rfl⟩
theorem d_W_empty_5 : hg_D Y_W_empty 5 6 1 (.iconst 0) := ⟨by decide +kernel, rfl⟩
theorem d_W_empty_6 : hg_D Y_W_empty 6 7 1 (.ireturn) := ⟨by decide +kernel, rfl⟩
theorem d_W_become_0 : hg_D Y_W_become 0 1 1 (.aload_n 0) := ⟨by decide +kernel, rfl⟩
theorem d_W_become_1 : hg_D Y_W_become 1 2 1 (.aload_n 1) := ⟨by decide +kernel, rfl⟩
theorem d_W_become_2 : hg_D Y_W_become 2 5 3 (.getfield 18) := ⟨by decide +kernel, rfl⟩
theorem d_W_become_5 : hg_D Y_W_become 5 8 3 (.putfield 18) := ⟨by decide +kernel, rfl⟩
theorem d_W_become_8 : hg_D Y_W_become 8 9 1 (.aload_n 1) := ⟨by decide +kernel, rfl⟩
theorem d_W_become_9 : hg_D Y_W_become 9 12 3 (.getfield 9) := ⟨by decide +kernel, rfl⟩
theorem d_W_become_12 : hg_D Y_W_become 12 13 1 (.iconst 0) := ⟨by decide +kernel, rfl⟩
theorem d_W_become_13 : hg_D Y_W_become 13 14 1 (.aload_n 0) := ⟨by decide +kernel, rfl⟩
theorem d_W_become_14 : hg_D Y_W_become 14 17 3 (.getfield 9) := ⟨by decide +kernel, rfl⟩
theorem d_W_become_17 : hg_D Y_W_become 17 18 1 (.iconst 0) := ⟨by decide +kernel, rfl⟩
theorem d_W_become_18 : hg_D Y_W_become 18 19 1 (.aload_n 0) := ⟨by decide +kernel, rfl⟩
theorem d_W_become_19 : hg_D Y_W_become 19 22 3 (.getfield 18) := ⟨by decide +kernel, rfl⟩
theorem d_W_become_22 : hg_D Y_W_become 22 25 3 (.invokestatic 22) := ⟨by decide +kernel, rfl⟩
theorem d_W_become_25 : hg_D Y_W_become 25 26 1 (.aload_n 1) := ⟨by decide +kernel, rfl⟩
theorem d_W_become_26 : hg_D Y_W_become 26 29 3 (.getfield 15) := ⟨by decide +kernel, rfl⟩
theorem d_W_become_29 : hg_D Y_W_become 29 30 1 (.iconst 0) := ⟨by decide +kernel, rfl⟩
theorem d_W_become_30 : hg_D Y_W_become 30 31 1 (.aload_n 0) := ⟨by decide +kernel, rfl⟩
theorem d_W_become_31 : hg_D Y_W_become 31 34 3 (.getfield 15) := ⟨by decide +kernel, rfl⟩
theorem d_W_become_34 : hg_D Y_W_become 34 35 1 (.iconst 0) := ⟨by decide +kernel, rfl⟩
theorem d_W_become_35 : hg_D Y_W_become 35 36 1 (.aload_n 0) := ⟨by decide +kernel, rfl⟩
theorem d_W_become_36 : hg_D Y_W_become 36 39 3 (.getfield 18) := ⟨by decide +kernel, rfl⟩
theorem d_W_become_39 : hg_D Y_W_become 39 42 3 (.invokestatic 22) := ⟨by decide +kernel, rfl⟩
theorem d_W_become_42 : hg_D Y_W_become 42 43 1 (.return_) := ⟨by decide +kernel, rfl⟩
theorem d_S_init_0 : hg_D Y_S_init 0 1 1 (.aload_n 0) := ⟨by decide +kernel, rfl⟩
theorem d_S_init_1 : hg_D Y_S_init 1 4 3 (.invokespecial 3) := ⟨by decide +kernel, rfl⟩
theorem d_S_init_4 : hg_D Y_S_init 4 5 1 (.aload_n 0) := ⟨by decide +kernel, rfl⟩
theorem d_S_init_5 : hg_D Y_S_init 5 7 2 (.bipush 6) := ⟨by decide +kernel, rfl⟩
theorem d_S_init_7 : hg_D Y_S_init 7 10 3 (.anewarray 9) := ⟨by decide +kernel, rfl⟩
theorem d_S_init_10 : hg_D Y_S_init 10 13 3 (.putfield 11) := ⟨by decide +kernel, rfl⟩
theorem d_S_init_13 : hg_D Y_S_init 13 14 1 (.aload_n 0) := ⟨by decide +kernel, rfl⟩
theorem d_S_init_14 : hg_D Y_S_init 14 16 2 (.bipush 6) := ⟨by decide +kernel, rfl⟩
theorem d_S_init_16 : hg_D Y_S_init 16 18 2 (.newarray .int) := ⟨by decide +kernel, rfl⟩
theorem d_S_init_18 : hg_D Y_S_init 18 21 3 (.putfield 17) := ⟨by decide +kernel, rfl⟩
theorem d_S_init_21 : hg_D Y_S_init 21 22 1 (.aload_n 0) := ⟨by decide +kernel, rfl⟩
theorem d_S_init_22 : hg_D Y_S_init 22 24 2 (.bipush 8) := ⟨by decide +kernel, rfl⟩
theorem d_S_init_24 : hg_D Y_S_init 24 26 2 (.newarray .int) := ⟨by decide +kernel, rfl⟩
theorem d_S_init_26 : hg_D Y_S_init 26 29 3 (.putfield 21) := ⟨by decide +kernel, rfl⟩
theorem d_S_init_29 : hg_D Y_S_init 29 30 1 (.aload_n 0) := ⟨by decide +kernel, rfl⟩
theorem d_S_init_30 : hg_D Y_S_init 30 31 1 (.aload_n 1) := ⟨by decide +kernel, rfl⟩
theorem d_S_init_31 : hg_D Y_S_init 31 34 3 (.putfield 24) := ⟨by decide +kernel, rfl⟩
theorem d_S_init_34 : hg_D Y_S_init 34 35 1 (.iconst 0) := ⟨by decide +kernel, rfl⟩
theorem d_S_init_35 : hg_D Y_S_init 35 36 1 (.istore_n 2) := ⟨by decide +kernel, rfl⟩
theorem d_S_init_36 : hg_D Y_S_init 36 37 1 (.iload_n 2) := ⟨by decide +kernel, rfl⟩
theorem d_S_init_37 : hg_D Y_S_init 37 39 2 (.bipush 6) := ⟨by decide +kernel, rfl⟩
theorem d_S_init_39 : hg_D Y_S_init 39 42 3 (.if_icmp .ge 22) := ⟨by decide +kernel, rfl⟩
theorem d_S_init_42 : hg_D Y_S_init 42 43 1 (.aload_n 0) := ⟨by decide +kernel, rfl⟩
theorem d_S_init_43 : hg_D Y_S_init 43 46 3 (.getfield 11) := ⟨by decide +kernel, rfl⟩
theorem d_S_init_46 : hg_D Y_S_init 46 47 1 (.iload_n 2) := ⟨by decide +kernel, rfl⟩
theorem d_S_init_47 : hg_D Y_S_init 47 50 3 (.new 9) := ⟨by decide +kernel, rfl⟩
theorem d_S_init_50 : hg_D Y_S_init 50 51 1 (.dup) := ⟨by decide +kernel, rfl⟩
theorem d_S_init_51 : hg_D Y_S_init 51 54 3 (.invokespecial 28) := ⟨by decide +kernel, rfl⟩
theorem d_S_init_54 : hg_D Y_S_init 54 55 1 (.aastore) := ⟨by decide +kernel, rfl⟩
theorem d_S_init_55 : hg_D Y_S_init 55 58 3 (.iinc 2 1) := ⟨by decide +kernel, rfl⟩
theorem d_S_init_58 : hg_D Y_S_init 58 61 3 (.goto (-22)) := ⟨by decide +kernel, rfl⟩
theorem d_S_init_61 : hg_D Y_S_init 61 62 1 (.return_) := ⟨by decide +kernel, rfl⟩
theorem d_S_become_0 : hg_D Y_S_become 0 1 1 (.aload_n 0) := ⟨by decide +kernel, rfl⟩
theorem d_S_become_1 : hg_D Y_S_become 1 2 1 (.aload_n 1) := ⟨by decide +kernel, rfl⟩
theorem d_S_become_2 : hg_D Y_S_become 2 5 3 (.getfield 29) := ⟨by decide +kernel, rfl⟩
theorem d_S_become_5 : hg_D Y_S_become 5 8 3 (.putfield 29) := ⟨by decide +kernel, rfl⟩
theorem d_S_become_8 : hg_D Y_S_become 8 9 1 (.aload_n 0) := ⟨by decide +kernel, rfl⟩
theorem d_S_become_9 : hg_D Y_S_become 9 10 1 (.aload_n 1) := ⟨by decide +kernel, rfl⟩
theorem d_S_become_10 : hg_D Y_S_become 10 13 3 (.getfield 33) := ⟨by decide +kernel, rfl⟩
theorem d_S_become_13 : hg_D Y_S_become 13 16 3 (.putfield 33) := ⟨by decide +kernel, rfl⟩
theorem d_S_become_16 : hg_D Y_S_become 16 17 1 (.aload_n 0) := ⟨by decide +kernel, rfl⟩
theorem d_S_become_17 : hg_D Y_S_become 17 18 1 (.aload_n 1) := ⟨by decide +kernel, rfl⟩
theorem d_S_become_18 : hg_D Y_S_become 18 21 3 (.getfield 36) := ⟨by decide +kernel, rfl⟩
theorem d_S_become_21 : hg_D Y_S_become 21 24 3 (.putfield 36) := ⟨by decide +kernel, rfl⟩
theorem d_S_become_24 : hg_D Y_S_become 24 25 1 (.aload_n 0) := ⟨by decide +kernel, rfl⟩
theorem d_S_become_25 : hg_D Y_S_become 25 26 1 (.aload_n 1) := ⟨by decide +kernel, rfl⟩
theorem d_S_become_26 : hg_D Y_S_become 26 29 3 (.getfield 39) := ⟨by decide +kernel, rfl⟩
theorem d_S_become_29 : hg_D Y_S_become 29 32 3 (.putfield 39) := ⟨by decide +kernel, rfl⟩
theorem d_S_become_32 : hg_D Y_S_become 32 33 1 (.aload_n 0) := ⟨by decide +kernel, rfl⟩
theorem d_S_become_33 : hg_D Y_S_become 33 34 1 (.aload_n 1) := ⟨by decide +kernel, rfl⟩
theorem d_S_become_34 : hg_D Y_S_become 34 37 3 (.getfield 42) := ⟨by decide +kernel, rfl⟩
theorem d_S_become_37 : hg_D Y_S_become 37 40 3 (.putfield 42) := ⟨by decide +kernel, rfl⟩
theorem d_S_become_40 : hg_D Y_S_become 40 41 1 (.aload_n 0) := ⟨by decide +kernel, rfl⟩
theorem d_S_become_41 : hg_D Y_S_become 41 42 1 (.aload_n 1) := ⟨by decide +kernel, rfl⟩
theorem d_S_become_42 : hg_D Y_S_become 42 45 3 (.getfield 24) := ⟨by decide +kernel, rfl⟩
theorem d_S_become_45 : hg_D Y_S_become 45 48 3 (.putfield 24) := ⟨by decide +kernel, rfl⟩
theorem d_S_become_48 : hg_D Y_S_become 48 49 1 (.iconst 0) := ⟨by decide +kernel, rfl⟩
theorem d_S_become_49 : hg_D Y_S_become 49 50 1 (.istore_n 2) := ⟨by decide +kernel, rfl⟩
theorem d_S_become_50 : hg_D Y_S_become 50 51 1 (.iload_n 2) := ⟨by decide +kernel, rfl⟩
theorem d_S_become_51 : hg_D Y_S_become 51 52 1 (.aload_n 0) := ⟨by decide +kernel, rfl⟩
theorem d_S_become_52 : hg_D Y_S_become 52 55 3 (.getfield 29) := ⟨by decide +kernel, rfl⟩
theorem d_S_become_55 : hg_D Y_S_become 55 58 3 (.if_icmp .ge 36) := ⟨by decide +kernel, rfl⟩
theorem d_S_become_58 : hg_D Y_S_become 58 59 1 (.aload_n 0) := ⟨by decide +kernel, rfl⟩
theorem d_S_become_59 : hg_D Y_S_become 59 62 3 (.getfield 11) := ⟨by decide +kernel, rfl⟩
theorem d_S_become_62 : hg_D Y_S_become 62 63 1 (.iload_n 2) := ⟨by decide +kernel, rfl⟩
theorem d_S_become_63 : hg_D Y_S_become 63 64 1 (.aaload) := ⟨by decide +kernel, rfl⟩
theorem d_S_become_64 : hg_D Y_S_become 64 65 1 (.aload_n 1) := ⟨by decide +kernel, rfl⟩
theorem d_S_become_65 : hg_D Y_S_become 65 68 3 (.getfield 11) := ⟨by decide +kernel, rfl⟩
theorem d_S_become_68 : hg_D Y_S_become 68 69 1 (.iload_n 2) := ⟨by decide +kernel, rfl⟩
theorem d_S_become_69 : hg_D Y_S_become 69 70 1 (.aaload) := ⟨by decide +kernel, rfl⟩
theorem d_S_become_70 : hg_D Y_S_become 70 73 3 (.invokevirtual 45) := ⟨by decide +kernel, rfl⟩
theorem d_S_become_73 : hg_D Y_S_become 73 74 1 (.aload_n 0) := ⟨by decide +kernel, rfl⟩
theorem d_S_become_74 : hg_D Y_S_become 74 77 3 (.getfield 17) := ⟨by decide +kernel, rfl⟩
theorem d_S_become_77 : hg_D Y_S_become 77 78 1 (.iload_n 2) := ⟨by decide +kernel, rfl⟩
theorem d_S_become_78 : hg_D Y_S_become 78 79 1 (.aload_n 1) := ⟨by decide +kernel, rfl⟩
theorem d_S_become_79 : hg_D Y_S_become 79 82 3 (.getfield 17) := ⟨by decide +kernel, rfl⟩
theorem d_S_become_82 : hg_D Y_S_become 82 83 1 (.iload_n 2) := ⟨by decide +kernel, rfl⟩
theorem d_S_become_83 : hg_D Y_S_become 83 84 1 (.iaload) := ⟨by decide +kernel, rfl⟩
theorem d_S_become_84 : hg_D Y_S_become 84 85 1 (.iastore) := ⟨by decide +kernel, rfl⟩
theorem d_S_become_85 : hg_D Y_S_become 85 88 3 (.iinc 2 1) := ⟨by decide +kernel, rfl⟩
theorem d_S_become_88 : hg_D Y_S_become 88 91 3 (.goto (-38)) := ⟨by decide +kernel, rfl⟩
theorem d_S_become_91 : hg_D Y_S_become 91 92 1 (.return_) := ⟨by decide +kernel, rfl⟩
theorem d_S_has_0 : hg_D Y_S_has 0 1 1 (.iload_n 1) := ⟨by decide +kernel, rfl⟩
theorem d_S_has_1 : hg_D Y_S_has 1 4 3 (.ifCond .lt 15) := ⟨by decide +kernel, rfl⟩
theorem d_S_has_4 : hg_D Y_S_has 4 5 1 (.iload_n 1) := ⟨by decide +kernel, rfl⟩
theorem d_S_has_5 : hg_D Y_S_has 5 6 1 (.aload_n 0) := ⟨by decide +kernel, rfl⟩
theorem d_S_has_6 : hg_D Y_S_has 6 9 3 (.getfield 29) := ⟨by decide +kernel, rfl⟩
theorem d_S_has_9 : hg_D Y_S_has 9 12 3 (.if_icmp .ge 7) := ⟨by decide +kernel, rfl⟩
theorem d_S_has_12 : hg_D Y_S_has 12 13 1 (.iconst 1) := ⟨by decide +kernel, rfl⟩
theorem d_S_has_13 : hg_D Y_S_has 13 16 3 (.goto 4) := ⟨by decide +kernel, rfl⟩
theorem d_S_has_16 : hg_D Y_S_has 16 17 1 (.iconst 0) := ⟨by decide +kernel, rfl⟩
theorem d_S_has_17 : hg_D Y_S_has 17 18 1 (.ireturn) := ⟨by decide +kernel, rfl⟩
theorem d_S_at_0 : hg_D Y_S_at 0 1 1 (.aload_n 0) := ⟨by decide +kernel, rfl⟩
theorem d_S_at_1 : hg_D Y_S_at 1 2 1 (.iload_n 1) := ⟨by decide +kernel, rfl⟩
theorem d_S_at_2 : hg_D Y_S_at 2 5 3 (.invokevirtual 49) := ⟨by decide +kernel, rfl⟩
theorem d_S_at_5 : hg_D Y_S_at 5 8 3 (.ifCond .eq 12) := ⟨by decide +kernel, rfl⟩
theorem d_S_at_8 : hg_D Y_S_at 8 9 1 (.aload_n 0) := ⟨by decide +kernel, rfl⟩
theorem d_S_at_9 : hg_D Y_S_at 9 12 3 (.getfield 11) := ⟨by decide +kernel, rfl⟩
theorem d_S_at_12 : hg_D Y_S_at 12 13 1 (.iload_n 1) := ⟨by decide +kernel, rfl⟩
theorem d_S_at_13 : hg_D Y_S_at 13 14 1 (.aaload) := ⟨by decide +kernel, rfl⟩
theorem d_S_at_14 : hg_D Y_S_at 14 17 3 (.goto 4) := ⟨by decide +kernel, rfl⟩
theorem d_S_at_17 : hg_D Y_S_at 17 18 1 (.aconst_null) := ⟨by decide +kernel, rfl⟩
theorem d_S_at_18 : hg_D Y_S_at 18 19 1 (.areturn) := ⟨by decide +kernel, rfl⟩
theorem d_S_add_0 : hg_D Y_S_add 0 1 1 (.aload_n 0) := ⟨by decide +kernel, rfl⟩
theorem d_S_add_1 : hg_D Y_S_add 1 4 3 (.getfield 29) := ⟨by decide +kernel, rfl⟩
theorem d_S_add_4 : hg_D Y_S_add 4 6 2 (.bipush 6) := ⟨by decide +kernel, rfl⟩
theorem d_S_add_6 : hg_D Y_S_add 6 9 3 (.if_icmp .ne 6) := ⟨by decide +kernel, rfl⟩
theorem d_S_add_9 : hg_D Y_S_add 9 11 2 (.bipush (-4)) := ⟨by decide +kernel, rfl⟩
theorem d_S_add_11 : hg_D Y_S_add 11 12 1 (.ireturn) := ⟨by decide +kernel, rfl⟩
theorem d_S_add_12 : hg_D Y_S_add 12 13 1 (.aload_n 0) := ⟨by decide +kernel, rfl⟩
theorem d_S_add_13 : hg_D Y_S_add 13 16 3 (.getfield 11) := ⟨by decide +kernel, rfl⟩
theorem d_S_add_16 : hg_D Y_S_add 16 17 1 (.aload_n 0) := ⟨by decide +kernel, rfl⟩
theorem d_S_add_17 : hg_D Y_S_add 17 20 3 (.getfield 29) := ⟨by decide +kernel, rfl⟩
theorem d_S_add_20 : hg_D Y_S_add 20 21 1 (.aaload) := ⟨by decide +kernel, rfl⟩
theorem d_S_add_21 : hg_D Y_S_add 21 22 1 (.iload_n 1) := ⟨by decide +kernel, rfl⟩
theorem d_S_add_22 : hg_D Y_S_add 22 23 1 (.iload_n 2) := ⟨by decide +kernel, rfl⟩
theorem d_S_add_23 : hg_D Y_S_add 23 24 1 (.iload_n 3) := ⟨by decide +kernel, rfl⟩
theorem d_S_add_24 : hg_D Y_S_add 24 27 3 (.invokevirtual 53) := ⟨by decide +kernel, rfl⟩
theorem d_S_add_27 : hg_D Y_S_add 27 28 1 (.aload_n 0) := ⟨by decide +kernel, rfl⟩
theorem d_S_add_28 : hg_D Y_S_add 28 31 3 (.getfield 17) := ⟨by decide +kernel, rfl⟩
theorem d_S_add_31 : hg_D Y_S_add 31 32 1 (.aload_n 0) := ⟨by decide +kernel, rfl⟩
theorem d_S_add_32 : hg_D Y_S_add 32 35 3 (.getfield 29) := ⟨by decide +kernel, rfl⟩
theorem d_S_add_35 : hg_D Y_S_add 35 36 1 (.aload_n 0) := ⟨by decide +kernel, rfl⟩
theorem d_S_add_36 : hg_D Y_S_add 36 39 3 (.getfield 29) := ⟨by decide +kernel, rfl⟩
theorem d_S_add_39 : hg_D Y_S_add 39 40 1 (.iastore) := ⟨by decide +kernel, rfl⟩
theorem d_S_add_40 : hg_D Y_S_add 40 41 1 (.aload_n 0) := ⟨by decide +kernel, rfl⟩
theorem d_S_add_41 : hg_D Y_S_add 41 42 1 (.dup) := ⟨by decide +kernel, rfl⟩
theorem d_S_add_42 : hg_D Y_S_add 42 45 3 (.getfield 29) := ⟨by decide +kernel, rfl⟩
theorem d_S_add_45 : hg_D Y_S_add 45 46 1 (.iconst 1) := ⟨by decide +kernel, rfl⟩
theorem d_S_add_46 : hg_D Y_S_add 46 47 1 (.iadd) := ⟨by decide +kernel, rfl⟩
theorem d_S_add_47 : hg_D Y_S_add 47 50 3 (.putfield 29) := ⟨by decide +kernel, rfl⟩
theorem d_S_add_50 : hg_D Y_S_add 50 51 1 (.aload_n 0) := ⟨by decide +kernel, rfl⟩
theorem d_S_add_51 : hg_D Y_S_add 51 54 3 (.getfield 29) := ⟨by decide +kernel, rfl⟩
theorem d_S_add_54 : hg_D Y_S_add 54 55 1 (.iconst 1) := ⟨by decide +kernel, rfl⟩
theorem d_S_add_55 : hg_D Y_S_add 55 56 1 (.isub) := ⟨by decide +kernel, rfl⟩
theorem d_S_add_56 : hg_D Y_S_add 56 57 1 (.ireturn) := ⟨by decide +kernel, rfl⟩
theorem d_S_placeOf_0 : hg_D Y_S_placeOf 0 1 1 (.iconst 0) := ⟨by decide +kernel, rfl⟩
theorem d_S_placeOf_1 : hg_D Y_S_placeOf 1 2 1 (.istore_n 2) := ⟨by decide +kernel, rfl⟩
theorem d_S_placeOf_2 : hg_D Y_S_placeOf 2 3 1 (.iload_n 2) := ⟨by decide +kernel, rfl⟩
theorem d_S_placeOf_3 : hg_D Y_S_placeOf 3 4 1 (.aload_n 0) := ⟨by decide +kernel, rfl⟩
theorem d_S_placeOf_4 : hg_D Y_S_placeOf 4 7 3 (.getfield 29) := ⟨by decide +kernel, rfl⟩
theorem d_S_placeOf_7 : hg_D Y_S_placeOf 7 10 3 (.if_icmp .ge 21) := ⟨by decide +kernel, rfl⟩
theorem d_S_placeOf_10 : hg_D Y_S_placeOf 10 11 1 (.aload_n 0) := ⟨by decide +kernel, rfl⟩
theorem d_S_placeOf_11 : hg_D Y_S_placeOf 11 14 3 (.getfield 17) := ⟨by decide +kernel, rfl⟩
theorem d_S_placeOf_14 : hg_D Y_S_placeOf 14 15 1 (.iload_n 2) := ⟨by decide +kernel, rfl⟩
theorem d_S_placeOf_15 : hg_D Y_S_placeOf 15 16 1 (.iaload) := ⟨by decide +kernel, rfl⟩
theorem d_S_placeOf_16 : hg_D Y_S_placeOf 16 17 1 (.iload_n 1) := ⟨by decide +kernel, rfl⟩
theorem d_S_placeOf_17 : hg_D Y_S_placeOf 17 20 3 (.if_icmp .ne 5) := ⟨by decide +kernel, rfl⟩
theorem d_S_placeOf_20 : hg_D Y_S_placeOf 20 21 1 (.iload_n 2) := ⟨by decide +kernel, rfl⟩
theorem d_S_placeOf_21 : hg_D Y_S_placeOf 21 22 1 (.ireturn) := ⟨by decide +kernel, rfl⟩
theorem d_S_placeOf_22 : hg_D Y_S_placeOf 22 25 3 (.iinc 2 1) := ⟨by decide +kernel, rfl⟩
theorem d_S_placeOf_25 : hg_D Y_S_placeOf 25 28 3 (.goto (-23)) := ⟨by decide +kernel, rfl⟩
theorem d_S_placeOf_28 : hg_D Y_S_placeOf 28 29 1 (.iconst (-1)) := ⟨by decide +kernel, rfl⟩
theorem d_S_placeOf_29 : hg_D Y_S_placeOf 29 30 1 (.ireturn) := ⟨by decide +kernel, rfl⟩
theorem d_S_change_0 : hg_D Y_S_change 0 1 1 (.aload_n 0) := ⟨by decide +kernel, rfl⟩
theorem d_S_change_1 : hg_D Y_S_change 1 2 1 (.iload_n 1) := ⟨by decide +kernel, rfl⟩
theorem d_S_change_2 : hg_D Y_S_change 2 5 3 (.invokevirtual 57) := ⟨by decide +kernel, rfl⟩
theorem d_S_change_5 : hg_D Y_S_change 5 6 1 (.istore_n 3) := ⟨by decide +kernel, rfl⟩
theorem d_S_change_6 : hg_D Y_S_change 6 7 1 (.aload_n 0) := ⟨by decide +kernel, rfl⟩
theorem d_S_change_7 : hg_D Y_S_change 7 8 1 (.iload_n 2) := ⟨by decide +kernel, rfl⟩
theorem d_S_change_8 : hg_D Y_S_change 8 11 3 (.invokevirtual 57) := ⟨by decide +kernel, rfl⟩
theorem d_S_change_11 : hg_D Y_S_change 11 13 2 (.istore 4) := ⟨by decide +kernel, rfl⟩
theorem d_S_change_13 : hg_D Y_S_change 13 14 1 (.iload_n 3) := ⟨by decide +kernel, rfl⟩
theorem d_S_change_14 : hg_D Y_S_change 14 17 3 (.ifCond .lt 8) := ⟨by decide +kernel, rfl⟩
theorem d_S_change_17 : hg_D Y_S_change 17 19 2 (.iload 4) := ⟨by decide +kernel, rfl⟩
theorem d_S_change_19 : hg_D Y_S_change 19 22 3 (.ifCond .ge 4) := ⟨by decide +kernel, rfl⟩
theorem d_S_change_22 : hg_D Y_S_change 22 23 1 (.return_) := ⟨by decide +kernel, rfl⟩
theorem d_S_change_23 : hg_D Y_S_change 23 24 1 (.aload_n 0) := ⟨by decide +kernel, rfl⟩
theorem d_S_change_24 : hg_D Y_S_change 24 27 3 (.getfield 17) := ⟨by decide +kernel, rfl⟩
theorem d_S_change_27 : hg_D Y_S_change 27 28 1 (.iload_n 3) := ⟨by decide +kernel, rfl⟩
theorem d_S_change_28 : hg_D Y_S_change 28 29 1 (.iload_n 2) := ⟨by decide +kernel, rfl⟩
theorem d_S_change_29 : hg_D Y_S_change 29 30 1 (.iastore) := ⟨by decide +kernel, rfl⟩
theorem d_S_change_30 : hg_D Y_S_change 30 31 1 (.aload_n 0) := ⟨by decide +kernel, rfl⟩
theorem d_S_change_31 : hg_D Y_S_change 31 34 3 (.getfield 17) := ⟨by decide +kernel, rfl⟩
theorem d_S_change_34 : hg_D Y_S_change 34 36 2 (.iload 4) := ⟨by decide +kernel, rfl⟩
theorem d_S_change_36 : hg_D Y_S_change 36 37 1 (.iload_n 1) := ⟨by decide +kernel, rfl⟩
theorem d_S_change_37 : hg_D Y_S_change 37 38 1 (.iastore) := ⟨by decide +kernel, rfl⟩
theorem d_S_change_38 : hg_D Y_S_change 38 39 1 (.return_) := ⟨by decide +kernel, rfl⟩
theorem d_S_dread_0 : hg_D Y_S_dread 0 1 1 (.aload_n 0) := ⟨by decide +kernel, rfl⟩
theorem d_S_dread_1 : hg_D Y_S_dread 1 4 3 (.getfield 11) := ⟨by decide +kernel, rfl⟩
theorem d_S_dread_4 : hg_D Y_S_dread 4 5 1 (.iload_n 1) := ⟨by decide +kernel, rfl⟩
theorem d_S_dread_5 : hg_D Y_S_dread 5 6 1 (.aaload) := ⟨by decide +kernel, rfl⟩
theorem d_S_dread_6 : hg_D Y_S_dread 6 7 1 (.astore_n 2) := ⟨by decide +kernel, rfl⟩
theorem d_S_dread_7 : hg_D Y_S_dread 7 8 1 (.aload_n 0) := ⟨by decide +kernel, rfl⟩
theorem d_S_dread_8 : hg_D Y_S_dread 8 11 3 (.getfield 21) := ⟨by decide +kernel, rfl⟩
theorem d_S_dread_11 : hg_D Y_S_dread 11 12 1 (.iconst 0) := ⟨by decide +kernel, rfl⟩
theorem d_S_dread_12 : hg_D Y_S_dread 12 13 1 (.iload_n 1) := ⟨by decide +kernel, rfl⟩
theorem d_S_dread_13 : hg_D Y_S_dread 13 14 1 (.iastore) := ⟨by decide +kernel, rfl⟩
theorem d_S_dread_14 : hg_D Y_S_dread 14 15 1 (.aload_n 0) := ⟨by decide +kernel, rfl⟩
theorem d_S_dread_15 : hg_D Y_S_dread 15 18 3 (.getfield 21) := ⟨by decide +kernel, rfl⟩
theorem d_S_dread_18 : hg_D Y_S_dread 18 19 1 (.iconst 1) := ⟨by decide +kernel, rfl⟩
theorem d_S_dread_19 : hg_D Y_S_dread 19 20 1 (.aload_n 2) := ⟨by decide +kernel, rfl⟩
theorem d_S_dread_20 : hg_D Y_S_dread 20 23 3 (.getfield 61) := ⟨by decide +kernel, rfl⟩
theorem d_S_dread_23 : hg_D Y_S_dread 23 24 1 (.iastore) := ⟨by decide +kernel, rfl⟩
theorem d_S_dread_24 : hg_D Y_S_dread 24 25 1 (.aload_n 0) := ⟨by decide +kernel, rfl⟩
theorem d_S_dread_25 : hg_D Y_S_dread 25 28 3 (.getfield 21) := ⟨by decide +kernel, rfl⟩
theorem d_S_dread_28 : hg_D Y_S_dread 28 29 1 (.iconst 2) := ⟨by decide +kernel, rfl⟩
theorem d_S_dread_29 : hg_D Y_S_dread 29 30 1 (.aload_n 2) := ⟨by decide +kernel, rfl⟩
theorem d_S_dread_30 : hg_D Y_S_dread 30 33 3 (.getfield 64) := ⟨by decide +kernel, rfl⟩
theorem d_S_dread_33 : hg_D Y_S_dread 33 34 1 (.iastore) := ⟨by decide +kernel, rfl⟩
theorem d_S_dread_34 : hg_D Y_S_dread 34 35 1 (.aload_n 0) := ⟨by decide +kernel, rfl⟩
theorem d_S_dread_35 : hg_D Y_S_dread 35 38 3 (.getfield 21) := ⟨by decide +kernel, rfl⟩
theorem d_S_dread_38 : hg_D Y_S_dread 38 39 1 (.iconst 3) := ⟨by decide +kernel, rfl⟩
theorem d_S_dread_39 : hg_D Y_S_dread 39 40 1 (.aload_n 2) := ⟨by decide +kernel, rfl⟩
theorem d_S_dread_40 : hg_D Y_S_dread 40 43 3 (.getfield 67) := ⟨by decide +kernel, rfl⟩
theorem d_S_dread_43 : hg_D Y_S_dread 43 44 1 (.iastore) := ⟨by decide +kernel, rfl⟩
theorem d_S_dread_44 : hg_D Y_S_dread 44 45 1 (.aload_n 0) := ⟨by decide +kernel, rfl⟩
theorem d_S_dread_45 : hg_D Y_S_dread 45 48 3 (.getfield 21) := ⟨by decide +kernel, rfl⟩
theorem d_S_dread_48 : hg_D Y_S_dread 48 49 1 (.iconst 4) := ⟨by decide +kernel, rfl⟩
theorem d_S_dread_49 : hg_D Y_S_dread 49 50 1 (.aload_n 2) := ⟨by decide +kernel, rfl⟩
theorem d_S_dread_50 : hg_D Y_S_dread 50 53 3 (.getfield 70) := ⟨by decide +kernel, rfl⟩
theorem d_S_dread_53 : hg_D Y_S_dread 53 55 2 (.bipush 10) := ⟨by decide +kernel, rfl⟩
theorem d_S_dread_55 : hg_D Y_S_dread 55 56 1 (.irem) := ⟨by decide +kernel, rfl⟩
theorem d_S_dread_56 : hg_D Y_S_dread 56 57 1 (.iastore) := ⟨by decide +kernel, rfl⟩
theorem d_S_dread_57 : hg_D Y_S_dread 57 58 1 (.aload_n 0) := ⟨by decide +kernel, rfl⟩
theorem d_S_dread_58 : hg_D Y_S_dread 58 61 3 (.getfield 21) := ⟨by decide +kernel, rfl⟩
theorem d_S_dread_61 : hg_D Y_S_dread 61 62 1 (.iconst 5) := ⟨by decide +kernel, rfl⟩
theorem d_S_dread_62 : hg_D Y_S_dread 62 63 1 (.aload_n 0) := ⟨by decide +kernel, rfl⟩
theorem d_S_dread_63 : hg_D Y_S_dread 63 66 3 (.getfield 42) := ⟨by decide +kernel, rfl⟩
theorem d_S_dread_66 : hg_D Y_S_dread 66 68 2 (.bipush 10) := ⟨by decide +kernel, rfl⟩
theorem d_S_dread_68 : hg_D Y_S_dread 68 69 1 (.irem) := ⟨by decide +kernel, rfl⟩
theorem d_S_dread_69 : hg_D Y_S_dread 69 70 1 (.iastore) := ⟨by decide +kernel, rfl⟩
theorem d_S_dread_70 : hg_D Y_S_dread 70 71 1 (.aload_n 2) := ⟨by decide +kernel, rfl⟩
theorem d_S_dread_71 : hg_D Y_S_dread 71 74 3 (.getfield 73) := ⟨by decide +kernel, rfl⟩
theorem d_S_dread_74 : hg_D Y_S_dread 74 75 1 (.aload_n 0) := ⟨by decide +kernel, rfl⟩
theorem d_S_dread_75 : hg_D Y_S_dread 75 78 3 (.getfield 24) := ⟨by decide +kernel, rfl⟩
theorem d_S_dread_78 : hg_D Y_S_dread 78 79 1 (.aload_n 0) := ⟨by decide +kernel, rfl⟩
theorem d_S_dread_79 : hg_D Y_S_dread 79 82 3 (.getfield 21) := ⟨by decide +kernel, rfl⟩
theorem d_S_dread_82 : hg_D Y_S_dread 82 85 3 (.invokevirtual 76) := ⟨by decide +kernel, rfl⟩
theorem d_S_dread_85 : hg_D Y_S_dread 85 86 1 (.iadd) := ⟨by decide +kernel, rfl⟩
theorem d_S_dread_86 : hg_D Y_S_dread 86 87 1 (.istore_n 3) := ⟨by decide +kernel, rfl⟩
theorem d_S_dread_87 : hg_D Y_S_dread 87 88 1 (.aload_n 0) := ⟨by decide +kernel, rfl⟩
theorem d_S_dread_88 : hg_D Y_S_dread 88 91 3 (.getfield 42) := ⟨by decide +kernel, rfl⟩
theorem d_S_dread_91 : hg_D Y_S_dread 91 92 1 (.iconst 4) := ⟨by decide +kernel, rfl⟩
theorem d_S_dread_92 : hg_D Y_S_dread 92 93 1 (.irem) := ⟨by decide +kernel, rfl⟩
theorem d_S_dread_93 : hg_D Y_S_dread 93 94 1 (.iconst 2) := ⟨by decide +kernel, rfl⟩
theorem d_S_dread_94 : hg_D Y_S_dread 94 97 3 (.if_icmp .ne 10) := ⟨by decide +kernel, rfl⟩
theorem d_S_dread_97 : hg_D Y_S_dread 97 98 1 (.aload_n 2) := ⟨by decide +kernel, rfl⟩
theorem d_S_dread_98 : hg_D Y_S_dread 98 101 3 (.getfield 64) := ⟨by decide +kernel, rfl⟩
theorem d_S_dread_101 : hg_D Y_S_dread 101 104 3 (.goto 4) := ⟨by decide +kernel, rfl⟩
theorem d_S_dread_104 : hg_D Y_S_dread 104 105 1 (.iconst 0) := ⟨by decide +kernel, rfl⟩
theorem d_S_dread_105 : hg_D Y_S_dread 105 107 2 (.istore 4) := ⟨by decide +kernel, rfl⟩
theorem d_S_dread_107 : hg_D Y_S_dread 107 109 2 (.bipush 30) := ⟨by decide +kernel, rfl⟩
theorem d_S_dread_109 : hg_D Y_S_dread 109 110 1 (.iconst 3) := ⟨by decide +kernel, rfl⟩
theorem d_S_dread_110 : hg_D Y_S_dread 110 111 1 (.aload_n 2) := ⟨by decide +kernel, rfl⟩
theorem d_S_dread_111 : hg_D Y_S_dread 111 114 3 (.getfield 70) := ⟨by decide +kernel, rfl⟩
theorem d_S_dread_114 : hg_D Y_S_dread 114 115 1 (.imul) := ⟨by decide +kernel, rfl⟩
theorem d_S_dread_115 : hg_D Y_S_dread 115 118 3 (.invokestatic 82) := ⟨by decide +kernel, rfl⟩
theorem d_S_dread_118 : hg_D Y_S_dread 118 120 2 (.istore 5) := ⟨by decide +kernel, rfl⟩
theorem d_S_dread_120 : hg_D Y_S_dread 120 121 1 (.aload_n 2) := ⟨by decide +kernel, rfl⟩
theorem d_S_dread_121 : hg_D Y_S_dread 121 124 3 (.getfield 61) := ⟨by decide +kernel, rfl⟩
theorem d_S_dread_124 : hg_D Y_S_dread 124 164 40 (.tableswitch 98 1 6 #[40, 45, 49, 54, 72, 81]) := ⟨by decide +kernel, rfl⟩
theorem d_S_dread_164 : hg_D Y_S_dread 164 165 1 (.iload_n 3) := ⟨by decide +kernel, rfl⟩
theorem d_S_dread_165 : hg_D Y_S_dread 165 167 2 (.iload 4) := ⟨by decide +kernel, rfl⟩
theorem d_S_dread_167 : hg_D Y_S_dread 167 168 1 (.iadd) := ⟨by decide +kernel, rfl⟩
theorem d_S_dread_168 : hg_D Y_S_dread 168 169 1 (.ireturn) := ⟨by decide +kernel, rfl⟩
theorem d_S_dread_169 : hg_D Y_S_dread 169 170 1 (.iload_n 3) := ⟨by decide +kernel, rfl⟩
theorem d_S_dread_170 : hg_D Y_S_dread 170 171 1 (.iconst 2) := ⟨by decide +kernel, rfl⟩
theorem d_S_dread_171 : hg_D Y_S_dread 171 172 1 (.idiv) := ⟨by decide +kernel, rfl⟩
theorem d_S_dread_172 : hg_D Y_S_dread 172 173 1 (.ireturn) := ⟨by decide +kernel, rfl⟩
theorem d_S_dread_173 : hg_D Y_S_dread 173 174 1 (.iload_n 3) := ⟨by decide +kernel, rfl⟩
theorem d_S_dread_174 : hg_D Y_S_dread 174 176 2 (.iload 5) := ⟨by decide +kernel, rfl⟩
theorem d_S_dread_176 : hg_D Y_S_dread 176 177 1 (.isub) := ⟨by decide +kernel, rfl⟩
theorem d_S_dread_177 : hg_D Y_S_dread 177 178 1 (.ireturn) := ⟨by decide +kernel, rfl⟩
theorem d_S_dread_178 : hg_D Y_S_dread 178 179 1 (.iload_n 3) := ⟨by decide +kernel, rfl⟩
theorem d_S_dread_179 : hg_D Y_S_dread 179 181 2 (.iload 4) := ⟨by decide +kernel, rfl⟩
theorem d_S_dread_181 : hg_D Y_S_dread 181 182 1 (.iadd) := ⟨by decide +kernel, rfl⟩
theorem d_S_dread_182 : hg_D Y_S_dread 182 183 1 (.aload_n 2) := ⟨by decide +kernel, rfl⟩
theorem d_S_dread_183 : hg_D Y_S_dread 183 186 3 (.getfield 70) := ⟨by decide +kernel, rfl⟩
theorem d_S_dread_186 : hg_D Y_S_dread 186 189 3 (.ifCond .ne 7) := ⟨by decide +kernel, rfl⟩
theorem d_S_dread_189 : hg_D Y_S_dread 189 190 1 (.iconst 2) := ⟨by decide +kernel, rfl⟩
theorem d_S_dread_190 : hg_D Y_S_dread 190 193 3 (.goto 4) := ⟨by decide +kernel, rfl⟩
theorem d_S_dread_193 : hg_D Y_S_dread 193 194 1 (.iconst 1) := ⟨by decide +kernel, rfl⟩
theorem d_S_dread_194 : hg_D Y_S_dread 194 195 1 (.imul) := ⟨by decide +kernel, rfl⟩
theorem d_S_dread_195 : hg_D Y_S_dread 195 196 1 (.ireturn) := ⟨by decide +kernel, rfl⟩
theorem d_S_dread_196 : hg_D Y_S_dread 196 197 1 (.iload_n 3) := ⟨by decide +kernel, rfl⟩
theorem d_S_dread_197 : hg_D Y_S_dread 197 198 1 (.iconst 2) := ⟨by decide +kernel, rfl⟩
theorem d_S_dread_198 : hg_D Y_S_dread 198 199 1 (.idiv) := ⟨by decide +kernel, rfl⟩
theorem d_S_dread_199 : hg_D Y_S_dread 199 200 1 (.aload_n 2) := ⟨by decide +kernel, rfl⟩
theorem d_S_dread_200 : hg_D Y_S_dread 200 203 3 (.getfield 67) := ⟨by decide +kernel, rfl⟩
theorem d_S_dread_203 : hg_D Y_S_dread 203 204 1 (.iadd) := ⟨by decide +kernel, rfl⟩
theorem d_S_dread_204 : hg_D Y_S_dread 204 205 1 (.ireturn) := ⟨by decide +kernel, rfl⟩
theorem d_S_dread_205 : hg_D Y_S_dread 205 206 1 (.iload_n 3) := ⟨by decide +kernel, rfl⟩
theorem d_S_dread_206 : hg_D Y_S_dread 206 208 2 (.iload 5) := ⟨by decide +kernel, rfl⟩
theorem d_S_dread_208 : hg_D Y_S_dread 208 209 1 (.isub) := ⟨by decide +kernel, rfl⟩
theorem d_S_dread_209 : hg_D Y_S_dread 209 210 1 (.aload_n 2) := ⟨by decide +kernel, rfl⟩
theorem d_S_dread_210 : hg_D Y_S_dread 210 213 3 (.getfield 88) := ⟨by decide +kernel, rfl⟩
theorem d_S_dread_213 : hg_D Y_S_dread 213 214 1 (.aload_n 0) := ⟨by decide +kernel, rfl⟩
theorem d_S_dread_214 : hg_D Y_S_dread 214 217 3 (.getfield 42) := ⟨by decide +kernel, rfl⟩
theorem d_S_dread_217 : hg_D Y_S_dread 217 218 1 (.iconst 3) := ⟨by decide +kernel, rfl⟩
theorem d_S_dread_218 : hg_D Y_S_dread 218 219 1 (.iand) := ⟨by decide +kernel, rfl⟩
theorem d_S_dread_219 : hg_D Y_S_dread 219 220 1 (.iaload) := ⟨by decide +kernel, rfl⟩
theorem d_S_dread_220 : hg_D Y_S_dread 220 221 1 (.iadd) := ⟨by decide +kernel, rfl⟩
theorem d_S_dread_221 : hg_D Y_S_dread 221 222 1 (.ireturn) := ⟨by decide +kernel, rfl⟩
theorem d_S_dread_222 : hg_D Y_S_dread 222 223 1 (.iload_n 3) := ⟨by decide +kernel, rfl⟩
theorem d_S_dread_223 : hg_D Y_S_dread 223 224 1 (.ireturn) := ⟨by decide +kernel, rfl⟩
theorem d_S_isIll_0 : hg_D Y_S_isIll 0 1 1 (.aload_n 0) := ⟨by decide +kernel, rfl⟩
theorem d_S_isIll_1 : hg_D Y_S_isIll 1 4 3 (.getfield 11) := ⟨by decide +kernel, rfl⟩
theorem d_S_isIll_4 : hg_D Y_S_isIll 4 5 1 (.iload_n 1) := ⟨by decide +kernel, rfl⟩
theorem d_S_isIll_5 : hg_D Y_S_isIll 5 6 1 (.aaload) := ⟨by decide +kernel, rfl⟩
theorem d_S_isIll_6 : hg_D Y_S_isIll 6 9 3 (.getfield 91) := ⟨by decide +kernel, rfl⟩
theorem d_S_isIll_9 : hg_D Y_S_isIll 9 12 3 (.ifCond .ne 18) := ⟨by decide +kernel, rfl⟩
theorem d_S_isIll_12 : hg_D Y_S_isIll 12 13 1 (.aload_n 0) := ⟨by decide +kernel, rfl⟩
theorem d_S_isIll_13 : hg_D Y_S_isIll 13 14 1 (.iload_n 1) := ⟨by decide +kernel, rfl⟩
theorem d_S_isIll_14 : hg_D Y_S_isIll 14 17 3 (.invokevirtual 95) := ⟨by decide +kernel, rfl⟩
theorem d_S_isIll_17 : hg_D Y_S_isIll 17 18 1 (.aload_n 0) := ⟨by decide +kernel, rfl⟩
theorem d_S_isIll_18 : hg_D Y_S_isIll 18 21 3 (.getfield 24) := ⟨by decide +kernel, rfl⟩
theorem d_S_isIll_21 : hg_D Y_S_isIll 21 24 3 (.getfield 98) := ⟨by decide +kernel, rfl⟩
theorem d_S_isIll_24 : hg_D Y_S_isIll 24 27 3 (.if_icmp .lt 7) := ⟨by decide +kernel, rfl⟩
theorem d_S_isIll_27 : hg_D Y_S_isIll 27 28 1 (.iconst 1) := ⟨by decide +kernel, rfl⟩
theorem d_S_isIll_28 : hg_D Y_S_isIll 28 31 3 (.goto 4) := ⟨by decide +kernel, rfl⟩
theorem d_S_isIll_31 : hg_D Y_S_isIll 31 32 1 (.iconst 0) := ⟨by decide +kernel, rfl⟩
theorem d_S_isIll_32 : hg_D Y_S_isIll 32 33 1 (.ireturn) := ⟨by decide +kernel, rfl⟩
theorem d_S_host_0 : hg_D Y_S_host 0 1 1 (.aload_n 0) := ⟨by decide +kernel, rfl⟩
theorem d_S_host_1 : hg_D Y_S_host 1 4 3 (.invokevirtual 101) := ⟨by decide +kernel, rfl⟩
theorem d_S_host_4 : hg_D Y_S_host 4 5 1 (.istore_n 1) := ⟨by decide +kernel, rfl⟩
theorem d_S_host_5 : hg_D Y_S_host 5 6 1 (.iload_n 1) := ⟨by decide +kernel, rfl⟩
theorem d_S_host_6 : hg_D Y_S_host 6 9 3 (.ifCond .ge 7) := ⟨by decide +kernel, rfl⟩
theorem d_S_host_9 : hg_D Y_S_host 9 10 1 (.iconst (-1)) := ⟨by decide +kernel, rfl⟩
theorem d_S_host_10 : hg_D Y_S_host 10 13 3 (.goto 9) := ⟨by decide +kernel, rfl⟩
theorem d_S_host_13 : hg_D Y_S_host 13 14 1 (.aload_n 0) := ⟨by decide +kernel, rfl⟩
theorem d_S_host_14 : hg_D Y_S_host 14 17 3 (.getfield 17) := ⟨by decide +kernel, rfl⟩
theorem d_S_host_17 : hg_D Y_S_host 17 18 1 (.iload_n 1) := ⟨by decide +kernel, rfl⟩
theorem d_S_host_18 : hg_D Y_S_host 18 19 1 (.iaload) := ⟨by decide +kernel, rfl⟩
theorem d_S_host_19 : hg_D Y_S_host 19 20 1 (.ireturn) := ⟨by decide +kernel, rfl⟩
theorem d_S_hostPlace_0 : hg_D Y_S_hostPlace 0 1 1 (.iconst 0) := ⟨by decide +kernel, rfl⟩
theorem d_S_hostPlace_1 : hg_D Y_S_hostPlace 1 2 1 (.istore_n 1) := ⟨by decide +kernel, rfl⟩
theorem d_S_hostPlace_2 : hg_D Y_S_hostPlace 2 3 1 (.iload_n 1) := ⟨by decide +kernel, rfl⟩
theorem d_S_hostPlace_3 : hg_D Y_S_hostPlace 3 4 1 (.aload_n 0) := ⟨by decide +kernel, rfl⟩
theorem d_S_hostPlace_4 : hg_D Y_S_hostPlace 4 7 3 (.getfield 29) := ⟨by decide +kernel, rfl⟩
theorem d_S_hostPlace_7 : hg_D Y_S_hostPlace 7 10 3 (.if_icmp .ge 30) := ⟨by decide +kernel, rfl⟩
theorem d_S_hostPlace_10 : hg_D Y_S_hostPlace 10 11 1 (.aload_n 0) := ⟨by decide +kernel, rfl⟩
theorem d_S_hostPlace_11 : hg_D Y_S_hostPlace 11 12 1 (.iload_n 1) := ⟨by decide +kernel, rfl⟩
theorem d_S_hostPlace_12 : hg_D Y_S_hostPlace 12 15 3 (.invokevirtual 105) := ⟨by decide +kernel, rfl⟩
theorem d_S_hostPlace_15 : hg_D Y_S_hostPlace 15 16 1 (.istore_n 2) := ⟨by decide +kernel, rfl⟩
theorem d_S_hostPlace_16 : hg_D Y_S_hostPlace 16 17 1 (.aload_n 0) := ⟨by decide +kernel, rfl⟩
theorem d_S_hostPlace_17 : hg_D Y_S_hostPlace 17 18 1 (.aload_n 0) := ⟨by decide +kernel, rfl⟩
theorem d_S_hostPlace_18 : hg_D Y_S_hostPlace 18 21 3 (.getfield 17) := ⟨by decide +kernel, rfl⟩
theorem d_S_hostPlace_21 : hg_D Y_S_hostPlace 21 22 1 (.iload_n 2) := ⟨by decide +kernel, rfl⟩
theorem d_S_hostPlace_22 : hg_D Y_S_hostPlace 22 23 1 (.iaload) := ⟨by decide +kernel, rfl⟩
theorem d_S_hostPlace_23 : hg_D Y_S_hostPlace 23 26 3 (.invokevirtual 108) := ⟨by decide +kernel, rfl⟩
theorem d_S_hostPlace_26 : hg_D Y_S_hostPlace 26 29 3 (.ifCond .ne 5) := ⟨by decide +kernel, rfl⟩
theorem d_S_hostPlace_29 : hg_D Y_S_hostPlace 29 30 1 (.iload_n 2) := ⟨by decide +kernel, rfl⟩
theorem d_S_hostPlace_30 : hg_D Y_S_hostPlace 30 31 1 (.ireturn) := ⟨by decide +kernel, rfl⟩
theorem d_S_hostPlace_31 : hg_D Y_S_hostPlace 31 34 3 (.iinc 1 1) := ⟨by decide +kernel, rfl⟩
theorem d_S_hostPlace_34 : hg_D Y_S_hostPlace 34 37 3 (.goto (-32)) := ⟨by decide +kernel, rfl⟩
theorem d_S_hostPlace_37 : hg_D Y_S_hostPlace 37 38 1 (.iconst (-1)) := ⟨by decide +kernel, rfl⟩
theorem d_S_hostPlace_38 : hg_D Y_S_hostPlace 38 39 1 (.ireturn) := ⟨by decide +kernel, rfl⟩
theorem d_S_behindPoint_0 : hg_D Y_S_behindPoint 0 1 1 (.aload_n 0) := ⟨by decide +kernel, rfl⟩
theorem d_S_behindPoint_1 : hg_D Y_S_behindPoint 1 4 3 (.getfield 33) := ⟨by decide +kernel, rfl⟩
theorem d_S_behindPoint_4 : hg_D Y_S_behindPoint 4 5 1 (.iload_n 1) := ⟨by decide +kernel, rfl⟩
theorem d_S_behindPoint_5 : hg_D Y_S_behindPoint 5 6 1 (.iadd) := ⟨by decide +kernel, rfl⟩
theorem d_S_behindPoint_6 : hg_D Y_S_behindPoint 6 7 1 (.istore_n 2) := ⟨by decide +kernel, rfl⟩
theorem d_S_behindPoint_7 : hg_D Y_S_behindPoint 7 8 1 (.iload_n 2) := ⟨by decide +kernel, rfl⟩
theorem d_S_behindPoint_8 : hg_D Y_S_behindPoint 8 9 1 (.aload_n 0) := ⟨by decide +kernel, rfl⟩
theorem d_S_behindPoint_9 : hg_D Y_S_behindPoint 9 12 3 (.getfield 29) := ⟨by decide +kernel, rfl⟩
theorem d_S_behindPoint_12 : hg_D Y_S_behindPoint 12 15 3 (.if_icmp .ge 7) := ⟨by decide +kernel, rfl⟩
theorem d_S_behindPoint_15 : hg_D Y_S_behindPoint 15 16 1 (.iload_n 2) := ⟨by decide +kernel, rfl⟩
theorem d_S_behindPoint_16 : hg_D Y_S_behindPoint 16 19 3 (.goto 9) := ⟨by decide +kernel, rfl⟩
theorem d_S_behindPoint_19 : hg_D Y_S_behindPoint 19 20 1 (.iload_n 2) := ⟨by decide +kernel, rfl⟩
theorem d_S_behindPoint_20 : hg_D Y_S_behindPoint 20 21 1 (.aload_n 0) := ⟨by decide +kernel, rfl⟩
theorem d_S_behindPoint_21 : hg_D Y_S_behindPoint 21 24 3 (.getfield 29) := ⟨by decide +kernel, rfl⟩
theorem d_S_behindPoint_24 : hg_D Y_S_behindPoint 24 25 1 (.isub) := ⟨by decide +kernel, rfl⟩
theorem d_S_behindPoint_25 : hg_D Y_S_behindPoint 25 26 1 (.ireturn) := ⟨by decide +kernel, rfl⟩
theorem d_S_thursdays_0 : hg_D Y_S_thursdays 0 1 1 (.iconst 0) := ⟨by decide +kernel, rfl⟩
theorem d_S_thursdays_1 : hg_D Y_S_thursdays 1 2 1 (.istore_n 2) := ⟨by decide +kernel, rfl⟩
theorem d_S_thursdays_2 : hg_D Y_S_thursdays 2 3 1 (.iload_n 2) := ⟨by decide +kernel, rfl⟩
theorem d_S_thursdays_3 : hg_D Y_S_thursdays 3 4 1 (.iload_n 1) := ⟨by decide +kernel, rfl⟩
theorem d_S_thursdays_4 : hg_D Y_S_thursdays 4 7 3 (.if_icmp .ge 14) := ⟨by decide +kernel, rfl⟩
theorem d_S_thursdays_7 : hg_D Y_S_thursdays 7 8 1 (.aload_n 0) := ⟨by decide +kernel, rfl⟩
theorem d_S_thursdays_8 : hg_D Y_S_thursdays 8 11 3 (.invokevirtual 111) := ⟨by decide +kernel, rfl⟩
theorem d_S_thursdays_11 : hg_D Y_S_thursdays 11 12 1 (.pop) := ⟨by decide +kernel, rfl⟩
theorem d_S_thursdays_12 : hg_D Y_S_thursdays 12 15 3 (.iinc 2 1) := ⟨by decide +kernel, rfl⟩
theorem d_S_thursdays_15 : hg_D Y_S_thursdays 15 18 3 (.goto (-13)) := ⟨by decide +kernel, rfl⟩
theorem d_S_thursdays_18 : hg_D Y_S_thursdays 18 19 1 (.return_) := ⟨by decide +kernel, rfl⟩
theorem d_S_thursday_0 : hg_D Y_S_thursday 0 1 1 (.aload_n 0) := ⟨by decide +kernel, rfl⟩
theorem d_S_thursday_1 : hg_D Y_S_thursday 1 4 3 (.invokevirtual 101) := ⟨by decide +kernel, rfl⟩
theorem d_S_thursday_4 : hg_D Y_S_thursday 4 5 1 (.istore_n 1) := ⟨by decide +kernel, rfl⟩
theorem d_S_thursday_5 : hg_D Y_S_thursday 5 6 1 (.iload_n 1) := ⟨by decide +kernel, rfl⟩
theorem d_S_thursday_6 : hg_D Y_S_thursday 6 9 3 (.ifCond .ge 7) := ⟨by decide +kernel, rfl⟩
theorem d_S_thursday_9 : hg_D Y_S_thursday 9 10 1 (.iconst (-1)) := ⟨by decide +kernel, rfl⟩
theorem d_S_thursday_10 : hg_D Y_S_thursday 10 13 3 (.goto 9) := ⟨by decide +kernel, rfl⟩
theorem d_S_thursday_13 : hg_D Y_S_thursday 13 14 1 (.aload_n 0) := ⟨by decide +kernel, rfl⟩
theorem d_S_thursday_14 : hg_D Y_S_thursday 14 17 3 (.getfield 17) := ⟨by decide +kernel, rfl⟩
theorem d_S_thursday_17 : hg_D Y_S_thursday 17 18 1 (.iload_n 1) := ⟨by decide +kernel, rfl⟩
theorem d_S_thursday_18 : hg_D Y_S_thursday 18 19 1 (.iaload) := ⟨by decide +kernel, rfl⟩
theorem d_S_thursday_19 : hg_D Y_S_thursday 19 20 1 (.istore_n 2) := ⟨by decide +kernel, rfl⟩
theorem d_S_thursday_20 : hg_D Y_S_thursday 20 21 1 (.iload_n 1) := ⟨by decide +kernel, rfl⟩
theorem d_S_thursday_21 : hg_D Y_S_thursday 21 24 3 (.ifCond .ge 16) := ⟨by decide +kernel, rfl⟩
theorem d_S_thursday_24 : hg_D Y_S_thursday 24 25 1 (.aload_n 0) := ⟨by decide +kernel, rfl⟩
theorem d_S_thursday_25 : hg_D Y_S_thursday 25 26 1 (.dup) := ⟨by decide +kernel, rfl⟩
theorem d_S_thursday_26 : hg_D Y_S_thursday 26 29 3 (.getfield 36) := ⟨by decide +kernel, rfl⟩
theorem d_S_thursday_29 : hg_D Y_S_thursday 29 30 1 (.iconst 1) := ⟨by decide +kernel, rfl⟩
theorem d_S_thursday_30 : hg_D Y_S_thursday 30 31 1 (.iadd) := ⟨by decide +kernel, rfl⟩
theorem d_S_thursday_31 : hg_D Y_S_thursday 31 34 3 (.putfield 36) := ⟨by decide +kernel, rfl⟩
theorem d_S_thursday_34 : hg_D Y_S_thursday 34 37 3 (.goto 8) := ⟨by decide +kernel, rfl⟩
theorem d_S_thursday_37 : hg_D Y_S_thursday 37 38 1 (.aload_n 0) := ⟨by decide +kernel, rfl⟩
theorem d_S_thursday_38 : hg_D Y_S_thursday 38 39 1 (.iload_n 1) := ⟨by decide +kernel, rfl⟩
theorem d_S_thursday_39 : hg_D Y_S_thursday 39 42 3 (.invokevirtual 114) := ⟨by decide +kernel, rfl⟩
theorem d_S_thursday_42 : hg_D Y_S_thursday 42 43 1 (.aload_n 0) := ⟨by decide +kernel, rfl⟩
theorem d_S_thursday_43 : hg_D Y_S_thursday 43 44 1 (.dup) := ⟨by decide +kernel, rfl⟩
theorem d_S_thursday_44 : hg_D Y_S_thursday 44 47 3 (.getfield 42) := ⟨by decide +kernel, rfl⟩
theorem d_S_thursday_47 : hg_D Y_S_thursday 47 48 1 (.iconst 1) := ⟨by decide +kernel, rfl⟩
theorem d_S_thursday_48 : hg_D Y_S_thursday 48 49 1 (.iadd) := ⟨by decide +kernel, rfl⟩
theorem d_S_thursday_49 : hg_D Y_S_thursday 49 52 3 (.putfield 42) := ⟨by decide +kernel, rfl⟩
theorem d_S_thursday_52 : hg_D Y_S_thursday 52 53 1 (.iload_n 2) := ⟨by decide +kernel, rfl⟩
theorem d_S_thursday_53 : hg_D Y_S_thursday 53 54 1 (.ireturn) := ⟨by decide +kernel, rfl⟩
theorem d_S_dineAt_0 : hg_D Y_S_dineAt 0 1 1 (.iconst 0) := ⟨by decide +kernel, rfl⟩
theorem d_S_dineAt_1 : hg_D Y_S_dineAt 1 2 1 (.istore_n 2) := ⟨by decide +kernel, rfl⟩
theorem d_S_dineAt_2 : hg_D Y_S_dineAt 2 3 1 (.iload_n 2) := ⟨by decide +kernel, rfl⟩
theorem d_S_dineAt_3 : hg_D Y_S_dineAt 3 4 1 (.aload_n 0) := ⟨by decide +kernel, rfl⟩
theorem d_S_dineAt_4 : hg_D Y_S_dineAt 4 7 3 (.getfield 29) := ⟨by decide +kernel, rfl⟩
theorem d_S_dineAt_7 : hg_D Y_S_dineAt 7 10 3 (.if_icmp .ge 49) := ⟨by decide +kernel, rfl⟩
theorem d_S_dineAt_10 : hg_D Y_S_dineAt 10 11 1 (.aload_n 0) := ⟨by decide +kernel, rfl⟩
theorem d_S_dineAt_11 : hg_D Y_S_dineAt 11 12 1 (.iload_n 2) := ⟨by decide +kernel, rfl⟩
theorem d_S_dineAt_12 : hg_D Y_S_dineAt 12 15 3 (.invokevirtual 105) := ⟨by decide +kernel, rfl⟩
theorem d_S_dineAt_15 : hg_D Y_S_dineAt 15 16 1 (.iload_n 1) := ⟨by decide +kernel, rfl⟩
theorem d_S_dineAt_16 : hg_D Y_S_dineAt 16 19 3 (.if_icmp .eq 40) := ⟨by decide +kernel, rfl⟩
theorem d_S_dineAt_19 : hg_D Y_S_dineAt 19 20 1 (.aload_n 0) := ⟨by decide +kernel, rfl⟩
theorem d_S_dineAt_20 : hg_D Y_S_dineAt 20 23 3 (.getfield 11) := ⟨by decide +kernel, rfl⟩
theorem d_S_dineAt_23 : hg_D Y_S_dineAt 23 24 1 (.aload_n 0) := ⟨by decide +kernel, rfl⟩
theorem d_S_dineAt_24 : hg_D Y_S_dineAt 24 27 3 (.getfield 17) := ⟨by decide +kernel, rfl⟩
theorem d_S_dineAt_27 : hg_D Y_S_dineAt 27 28 1 (.aload_n 0) := ⟨by decide +kernel, rfl⟩
theorem d_S_dineAt_28 : hg_D Y_S_dineAt 28 29 1 (.iload_n 2) := ⟨by decide +kernel, rfl⟩
theorem d_S_dineAt_29 : hg_D Y_S_dineAt 29 32 3 (.invokevirtual 105) := ⟨by decide +kernel, rfl⟩
theorem d_S_dineAt_32 : hg_D Y_S_dineAt 32 33 1 (.iaload) := ⟨by decide +kernel, rfl⟩
theorem d_S_dineAt_33 : hg_D Y_S_dineAt 33 34 1 (.aaload) := ⟨by decide +kernel, rfl⟩
theorem d_S_dineAt_34 : hg_D Y_S_dineAt 34 35 1 (.astore_n 3) := ⟨by decide +kernel, rfl⟩
theorem d_S_dineAt_35 : hg_D Y_S_dineAt 35 36 1 (.aload_n 3) := ⟨by decide +kernel, rfl⟩
theorem d_S_dineAt_36 : hg_D Y_S_dineAt 36 38 2 (.bipush 9) := ⟨by decide +kernel, rfl⟩
theorem d_S_dineAt_38 : hg_D Y_S_dineAt 38 39 1 (.aload_n 3) := ⟨by decide +kernel, rfl⟩
theorem d_S_dineAt_39 : hg_D Y_S_dineAt 39 42 3 (.getfield 67) := ⟨by decide +kernel, rfl⟩
theorem d_S_dineAt_42 : hg_D Y_S_dineAt 42 43 1 (.iconst 1) := ⟨by decide +kernel, rfl⟩
theorem d_S_dineAt_43 : hg_D Y_S_dineAt 43 44 1 (.iadd) := ⟨by decide +kernel, rfl⟩
theorem d_S_dineAt_44 : hg_D Y_S_dineAt 44 47 3 (.invokestatic 82) := ⟨by decide +kernel, rfl⟩
theorem d_S_dineAt_47 : hg_D Y_S_dineAt 47 50 3 (.putfield 67) := ⟨by decide +kernel, rfl⟩
theorem d_S_dineAt_50 : hg_D Y_S_dineAt 50 53 3 (.iinc 2 1) := ⟨by decide +kernel, rfl⟩
theorem d_S_dineAt_53 : hg_D Y_S_dineAt 53 56 3 (.goto (-51)) := ⟨by decide +kernel, rfl⟩
theorem d_S_dineAt_56 : hg_D Y_S_dineAt 56 57 1 (.aload_n 0) := ⟨by decide +kernel, rfl⟩
theorem d_S_dineAt_57 : hg_D Y_S_dineAt 57 60 3 (.getfield 11) := ⟨by decide +kernel, rfl⟩
theorem d_S_dineAt_60 : hg_D Y_S_dineAt 60 61 1 (.aload_n 0) := ⟨by decide +kernel, rfl⟩
theorem d_S_dineAt_61 : hg_D Y_S_dineAt 61 64 3 (.getfield 17) := ⟨by decide +kernel, rfl⟩
theorem d_S_dineAt_64 : hg_D Y_S_dineAt 64 65 1 (.iload_n 1) := ⟨by decide +kernel, rfl⟩
theorem d_S_dineAt_65 : hg_D Y_S_dineAt 65 66 1 (.iaload) := ⟨by decide +kernel, rfl⟩
theorem d_S_dineAt_66 : hg_D Y_S_dineAt 66 67 1 (.aaload) := ⟨by decide +kernel, rfl⟩
theorem d_S_dineAt_67 : hg_D Y_S_dineAt 67 68 1 (.astore_n 2) := ⟨by decide +kernel, rfl⟩
theorem d_S_dineAt_68 : hg_D Y_S_dineAt 68 69 1 (.aload_n 2) := ⟨by decide +kernel, rfl⟩
theorem d_S_dineAt_69 : hg_D Y_S_dineAt 69 70 1 (.dup) := ⟨by decide +kernel, rfl⟩
theorem d_S_dineAt_70 : hg_D Y_S_dineAt 70 73 3 (.getfield 70) := ⟨by decide +kernel, rfl⟩
theorem d_S_dineAt_73 : hg_D Y_S_dineAt 73 74 1 (.iconst 1) := ⟨by decide +kernel, rfl⟩
theorem d_S_dineAt_74 : hg_D Y_S_dineAt 74 75 1 (.iadd) := ⟨by decide +kernel, rfl⟩
theorem d_S_dineAt_75 : hg_D Y_S_dineAt 75 78 3 (.putfield 70) := ⟨by decide +kernel, rfl⟩
theorem d_S_dineAt_78 : hg_D Y_S_dineAt 78 79 1 (.aload_n 2) := ⟨by decide +kernel, rfl⟩
theorem d_S_dineAt_79 : hg_D Y_S_dineAt 79 82 3 (.getfield 118) := ⟨by decide +kernel, rfl⟩
theorem d_S_dineAt_82 : hg_D Y_S_dineAt 82 83 1 (.aload_n 0) := ⟨by decide +kernel, rfl⟩
theorem d_S_dineAt_83 : hg_D Y_S_dineAt 83 86 3 (.getfield 42) := ⟨by decide +kernel, rfl⟩
theorem d_S_dineAt_86 : hg_D Y_S_dineAt 86 88 2 (.bipush 7) := ⟨by decide +kernel, rfl⟩
theorem d_S_dineAt_88 : hg_D Y_S_dineAt 88 89 1 (.iand) := ⟨by decide +kernel, rfl⟩
theorem d_S_dineAt_89 : hg_D Y_S_dineAt 89 90 1 (.ishr) := ⟨by decide +kernel, rfl⟩
theorem d_S_dineAt_90 : hg_D Y_S_dineAt 90 91 1 (.iconst 1) := ⟨by decide +kernel, rfl⟩
theorem d_S_dineAt_91 : hg_D Y_S_dineAt 91 92 1 (.iand) := ⟨by decide +kernel, rfl⟩
theorem d_S_dineAt_92 : hg_D Y_S_dineAt 92 95 3 (.ifCond .eq 13) := ⟨by decide +kernel, rfl⟩
theorem d_S_dineAt_95 : hg_D Y_S_dineAt 95 96 1 (.aload_n 0) := ⟨by decide +kernel, rfl⟩
theorem d_S_dineAt_96 : hg_D Y_S_dineAt 96 97 1 (.dup) := ⟨by decide +kernel, rfl⟩
theorem d_S_dineAt_97 : hg_D Y_S_dineAt 97 100 3 (.getfield 39) := ⟨by decide +kernel, rfl⟩
theorem d_S_dineAt_100 : hg_D Y_S_dineAt 100 101 1 (.iconst 1) := ⟨by decide +kernel, rfl⟩
theorem d_S_dineAt_101 : hg_D Y_S_dineAt 101 102 1 (.iadd) := ⟨by decide +kernel, rfl⟩
theorem d_S_dineAt_102 : hg_D Y_S_dineAt 102 105 3 (.putfield 39) := ⟨by decide +kernel, rfl⟩
theorem d_S_dineAt_105 : hg_D Y_S_dineAt 105 106 1 (.aload_n 2) := ⟨by decide +kernel, rfl⟩
theorem d_S_dineAt_106 : hg_D Y_S_dineAt 106 109 3 (.getfield 67) := ⟨by decide +kernel, rfl⟩
theorem d_S_dineAt_109 : hg_D Y_S_dineAt 109 112 3 (.ifCond .le 21) := ⟨by decide +kernel, rfl⟩
theorem d_S_dineAt_112 : hg_D Y_S_dineAt 112 113 1 (.aload_n 2) := ⟨by decide +kernel, rfl⟩
theorem d_S_dineAt_113 : hg_D Y_S_dineAt 113 114 1 (.dup) := ⟨by decide +kernel, rfl⟩
theorem d_S_dineAt_114 : hg_D Y_S_dineAt 114 117 3 (.getfield 67) := ⟨by decide +kernel, rfl⟩
theorem d_S_dineAt_117 : hg_D Y_S_dineAt 117 118 1 (.iconst 1) := ⟨by decide +kernel, rfl⟩
theorem d_S_dineAt_118 : hg_D Y_S_dineAt 118 119 1 (.isub) := ⟨by decide +kernel, rfl⟩
theorem d_S_dineAt_119 : hg_D Y_S_dineAt 119 122 3 (.putfield 67) := ⟨by decide +kernel, rfl⟩
theorem d_S_dineAt_122 : hg_D Y_S_dineAt 122 123 1 (.aload_n 0) := ⟨by decide +kernel, rfl⟩
theorem d_S_dineAt_123 : hg_D Y_S_dineAt 123 124 1 (.iload_n 1) := ⟨by decide +kernel, rfl⟩
theorem d_S_dineAt_124 : hg_D Y_S_dineAt 124 127 3 (.putfield 33) := ⟨by decide +kernel, rfl⟩
theorem d_S_dineAt_127 : hg_D Y_S_dineAt 127 130 3 (.goto 24) := ⟨by decide +kernel, rfl⟩
theorem d_S_dineAt_130 : hg_D Y_S_dineAt 130 131 1 (.aload_n 0) := ⟨by decide +kernel, rfl⟩
theorem d_S_dineAt_131 : hg_D Y_S_dineAt 131 132 1 (.iload_n 1) := ⟨by decide +kernel, rfl⟩
theorem d_S_dineAt_132 : hg_D Y_S_dineAt 132 133 1 (.iconst 1) := ⟨by decide +kernel, rfl⟩
theorem d_S_dineAt_133 : hg_D Y_S_dineAt 133 134 1 (.iadd) := ⟨by decide +kernel, rfl⟩
theorem d_S_dineAt_134 : hg_D Y_S_dineAt 134 135 1 (.aload_n 0) := ⟨by decide +kernel, rfl⟩
theorem d_S_dineAt_135 : hg_D Y_S_dineAt 135 138 3 (.getfield 29) := ⟨by decide +kernel, rfl⟩
theorem d_S_dineAt_138 : hg_D Y_S_dineAt 138 141 3 (.if_icmp .ge 9) := ⟨by decide +kernel, rfl⟩
theorem d_S_dineAt_141 : hg_D Y_S_dineAt 141 142 1 (.iload_n 1) := ⟨by decide +kernel, rfl⟩
theorem d_S_dineAt_142 : hg_D Y_S_dineAt 142 143 1 (.iconst 1) := ⟨by decide +kernel, rfl⟩
theorem d_S_dineAt_143 : hg_D Y_S_dineAt 143 144 1 (.iadd) := ⟨by decide +kernel, rfl⟩
theorem d_S_dineAt_144 : hg_D Y_S_dineAt 144 147 3 (.goto 4) := ⟨by decide +kernel, rfl⟩
theorem d_S_dineAt_147 : hg_D Y_S_dineAt 147 148 1 (.iconst 0) := ⟨by decide +kernel, rfl⟩
theorem d_S_dineAt_148 : hg_D Y_S_dineAt 148 151 3 (.putfield 33) := ⟨by decide +kernel, rfl⟩
theorem d_S_dineAt_151 : hg_D Y_S_dineAt 151 152 1 (.return_) := ⟨by decide +kernel, rfl⟩
theorem d_T_init_0 : hg_D Y_T_init 0 1 1 (.aload_n 0) := ⟨by decide +kernel, rfl⟩
theorem d_T_init_1 : hg_D Y_T_init 1 4 3 (.invokespecial 1) := ⟨by decide +kernel, rfl⟩
theorem d_T_init_4 : hg_D Y_T_init 4 5 1 (.aload_n 0) := ⟨by decide +kernel, rfl⟩
theorem d_T_init_5 : hg_D Y_T_init 5 7 2 (.bipush 20) := ⟨by decide +kernel, rfl⟩
theorem d_T_init_7 : hg_D Y_T_init 7 9 2 (.newarray .int) := ⟨by decide +kernel, rfl⟩
theorem d_T_init_9 : hg_D Y_T_init 9 12 3 (.putfield 9) := ⟨by decide +kernel, rfl⟩
theorem d_T_init_12 : hg_D Y_T_init 12 13 1 (.return_) := ⟨by decide +kernel, rfl⟩
theorem d_T_isUnder_0 : hg_D Y_T_isUnder 0 1 1 (.iload_n 0) := ⟨by decide +kernel, rfl⟩
theorem d_T_isUnder_1 : hg_D Y_T_isUnder 1 2 1 (.istore_n 2) := ⟨by decide +kernel, rfl⟩
theorem d_T_isUnder_2 : hg_D Y_T_isUnder 2 3 1 (.iconst 0) := ⟨by decide +kernel, rfl⟩
theorem d_T_isUnder_3 : hg_D Y_T_isUnder 3 4 1 (.istore_n 3) := ⟨by decide +kernel, rfl⟩
theorem d_T_isUnder_4 : hg_D Y_T_isUnder 4 5 1 (.iload_n 3) := ⟨by decide +kernel, rfl⟩
theorem d_T_isUnder_5 : hg_D Y_T_isUnder 5 6 1 (.iconst 3) := ⟨by decide +kernel, rfl⟩
theorem d_T_isUnder_6 : hg_D Y_T_isUnder 6 9 3 (.if_icmp .ge 26) := ⟨by decide +kernel, rfl⟩
theorem d_T_isUnder_9 : hg_D Y_T_isUnder 9 10 1 (.iload_n 2) := ⟨by decide +kernel, rfl⟩
theorem d_T_isUnder_10 : hg_D Y_T_isUnder 10 13 3 (.ifCond .lt 22) := ⟨by decide +kernel, rfl⟩
theorem d_T_isUnder_13 : hg_D Y_T_isUnder 13 14 1 (.iload_n 2) := ⟨by decide +kernel, rfl⟩
theorem d_T_isUnder_14 : hg_D Y_T_isUnder 14 15 1 (.iload_n 1) := ⟨by decide +kernel, rfl⟩
theorem d_T_isUnder_15 : hg_D Y_T_isUnder 15 18 3 (.if_icmp .ne 5) := ⟨by decide +kernel, rfl⟩
theorem d_T_isUnder_18 : hg_D Y_T_isUnder 18 19 1 (.iconst 1) := ⟨by decide +kernel, rfl⟩
theorem d_T_isUnder_19 : hg_D Y_T_isUnder 19 20 1 (.ireturn) := ⟨by decide +kernel, rfl⟩
theorem d_T_isUnder_20 : hg_D Y_T_isUnder 20 23 3 (.getstatic 13) := ⟨by decide +kernel, rfl⟩
theorem d_T_isUnder_23 : hg_D Y_T_isUnder 23 24 1 (.iload_n 2) := ⟨by decide +kernel, rfl⟩
theorem d_T_isUnder_24 : hg_D Y_T_isUnder 24 25 1 (.iaload) := ⟨by decide +kernel, rfl⟩
theorem d_T_isUnder_25 : hg_D Y_T_isUnder 25 26 1 (.istore_n 2) := ⟨by decide +kernel, rfl⟩
theorem d_T_isUnder_26 : hg_D Y_T_isUnder 26 29 3 (.iinc 3 1) := ⟨by decide +kernel, rfl⟩
theorem d_T_isUnder_29 : hg_D Y_T_isUnder 29 32 3 (.goto (-25)) := ⟨by decide +kernel, rfl⟩
theorem d_T_isUnder_32 : hg_D Y_T_isUnder 32 33 1 (.iconst 0) := ⟨by decide +kernel, rfl⟩
theorem d_T_isUnder_33 : hg_D Y_T_isUnder 33 34 1 (.ireturn) := ⟨by decide +kernel, rfl⟩
theorem d_T_forget_0 : hg_D Y_T_forget 0 1 1 (.aload_n 0) := ⟨by decide +kernel, rfl⟩
theorem d_T_forget_1 : hg_D Y_T_forget 1 2 1 (.iconst 0) := ⟨by decide +kernel, rfl⟩
theorem d_T_forget_2 : hg_D Y_T_forget 2 5 3 (.putfield 16) := ⟨by decide +kernel, rfl⟩
theorem d_T_forget_5 : hg_D Y_T_forget 5 6 1 (.return_) := ⟨by decide +kernel, rfl⟩
theorem d_T_kept_0 : hg_D Y_T_kept 0 1 1 (.aload_n 0) := ⟨by decide +kernel, rfl⟩
theorem d_T_kept_1 : hg_D Y_T_kept 1 4 3 (.getfield 16) := ⟨by decide +kernel, rfl⟩
theorem d_T_kept_4 : hg_D Y_T_kept 4 6 2 (.bipush 20) := ⟨by decide +kernel, rfl⟩
theorem d_T_kept_6 : hg_D Y_T_kept 6 9 3 (.invokestatic 20) := ⟨by decide +kernel, rfl⟩
theorem d_T_kept_9 : hg_D Y_T_kept 9 10 1 (.ireturn) := ⟨by decide +kernel, rfl⟩
theorem d_T_start_0 : hg_D Y_T_start 0 1 1 (.aload_n 0) := ⟨by decide +kernel, rfl⟩
theorem d_T_start_1 : hg_D Y_T_start 1 2 1 (.iload_n 1) := ⟨by decide +kernel, rfl⟩
theorem d_T_start_2 : hg_D Y_T_start 2 5 3 (.putfield 26) := ⟨by decide +kernel, rfl⟩
theorem d_T_start_5 : hg_D Y_T_start 5 6 1 (.aload_n 0) := ⟨by decide +kernel, rfl⟩
theorem d_T_start_6 : hg_D Y_T_start 6 7 1 (.aload_n 2) := ⟨by decide +kernel, rfl⟩
theorem d_T_start_7 : hg_D Y_T_start 7 10 3 (.getfield 29) := ⟨by decide +kernel, rfl⟩
theorem d_T_start_10 : hg_D Y_T_start 10 13 3 (.putfield 34) := ⟨by decide +kernel, rfl⟩
theorem d_T_start_13 : hg_D Y_T_start 13 14 1 (.aload_n 0) := ⟨by decide +kernel, rfl⟩
theorem d_T_start_14 : hg_D Y_T_start 14 15 1 (.aload_n 2) := ⟨by decide +kernel, rfl⟩
theorem d_T_start_15 : hg_D Y_T_start 15 18 3 (.getfield 35) := ⟨by decide +kernel, rfl⟩
theorem d_T_start_18 : hg_D Y_T_start 18 21 3 (.putfield 38) := ⟨by decide +kernel, rfl⟩
theorem d_T_start_21 : hg_D Y_T_start 21 22 1 (.aload_n 0) := ⟨by decide +kernel, rfl⟩
theorem d_T_start_22 : hg_D Y_T_start 22 23 1 (.iload_n 3) := ⟨by decide +kernel, rfl⟩
theorem d_T_start_23 : hg_D Y_T_start 23 24 1 (.aload_n 0) := ⟨by decide +kernel, rfl⟩
theorem d_T_start_24 : hg_D Y_T_start 24 27 3 (.getfield 34) := ⟨by decide +kernel, rfl⟩
theorem d_T_start_27 : hg_D Y_T_start 27 29 2 (.iload 4) := ⟨by decide +kernel, rfl⟩
theorem d_T_start_29 : hg_D Y_T_start 29 30 1 (.iconst 0) := ⟨by decide +kernel, rfl⟩
theorem d_T_start_30 : hg_D Y_T_start 30 33 3 (.invokevirtual 39) := ⟨by decide +kernel, rfl⟩
theorem d_T_start_33 : hg_D Y_T_start 33 34 1 (.ireturn) := ⟨by decide +kernel, rfl⟩
theorem d_T_find_0 : hg_D Y_T_find 0 1 1 (.iload_n 2) := ⟨by decide +kernel, rfl⟩
theorem d_T_find_1 : hg_D Y_T_find 1 3 2 (.istore 5) := ⟨by decide +kernel, rfl⟩
theorem d_T_find_3 : hg_D Y_T_find 3 4 1 (.iconst 0) := ⟨by decide +kernel, rfl⟩
theorem d_T_find_4 : hg_D Y_T_find 4 6 2 (.istore 6) := ⟨by decide +kernel, rfl⟩
theorem d_T_find_6 : hg_D Y_T_find 6 8 2 (.iload 6) := ⟨by decide +kernel, rfl⟩
theorem d_T_find_8 : hg_D Y_T_find 8 9 1 (.iconst 3) := ⟨by decide +kernel, rfl⟩
theorem d_T_find_9 : hg_D Y_T_find 9 12 3 (.if_icmp .ge 51) := ⟨by decide +kernel, rfl⟩
theorem d_T_find_12 : hg_D Y_T_find 12 14 2 (.iload 5) := ⟨by decide +kernel, rfl⟩
theorem d_T_find_14 : hg_D Y_T_find 14 17 3 (.ifCond .lt 46) := ⟨by decide +kernel, rfl⟩
theorem d_T_find_17 : hg_D Y_T_find 17 20 3 (.getstatic 43) := ⟨by decide +kernel, rfl⟩
theorem d_T_find_20 : hg_D Y_T_find 20 21 1 (.iconst 3) := ⟨by decide +kernel, rfl⟩
theorem d_T_find_21 : hg_D Y_T_find 21 23 2 (.iload 5) := ⟨by decide +kernel, rfl⟩
theorem d_T_find_23 : hg_D Y_T_find 23 24 1 (.imul) := ⟨by decide +kernel, rfl⟩
theorem d_T_find_24 : hg_D Y_T_find 24 25 1 (.iload_n 1) := ⟨by decide +kernel, rfl⟩
theorem d_T_find_25 : hg_D Y_T_find 25 26 1 (.iadd) := ⟨by decide +kernel, rfl⟩
theorem d_T_find_26 : hg_D Y_T_find 26 27 1 (.iaload) := ⟨by decide +kernel, rfl⟩
theorem d_T_find_27 : hg_D Y_T_find 27 29 2 (.istore 7) := ⟨by decide +kernel, rfl⟩
theorem d_T_find_29 : hg_D Y_T_find 29 31 2 (.iload 7) := ⟨by decide +kernel, rfl⟩
theorem d_T_find_31 : hg_D Y_T_find 31 34 3 (.ifCond .eq 15) := ⟨by decide +kernel, rfl⟩
theorem d_T_find_34 : hg_D Y_T_find 34 35 1 (.aload_n 0) := ⟨by decide +kernel, rfl⟩
theorem d_T_find_35 : hg_D Y_T_find 35 37 2 (.iload 7) := ⟨by decide +kernel, rfl⟩
theorem d_T_find_37 : hg_D Y_T_find 37 39 2 (.iload 5) := ⟨by decide +kernel, rfl⟩
theorem d_T_find_39 : hg_D Y_T_find 39 40 1 (.iload_n 3) := ⟨by decide +kernel, rfl⟩
theorem d_T_find_40 : hg_D Y_T_find 40 42 2 (.iload 4) := ⟨by decide +kernel, rfl⟩
theorem d_T_find_42 : hg_D Y_T_find 42 45 3 (.invokevirtual 46) := ⟨by decide +kernel, rfl⟩
theorem d_T_find_45 : hg_D Y_T_find 45 46 1 (.ireturn) := ⟨by decide +kernel, rfl⟩
theorem d_T_find_46 : hg_D Y_T_find 46 49 3 (.getstatic 13) := ⟨by decide +kernel, rfl⟩
theorem d_T_find_49 : hg_D Y_T_find 49 51 2 (.iload 5) := ⟨by decide +kernel, rfl⟩
theorem d_T_find_51 : hg_D Y_T_find 51 52 1 (.iaload) := ⟨by decide +kernel, rfl⟩
theorem d_T_find_52 : hg_D Y_T_find 52 54 2 (.istore 5) := ⟨by decide +kernel, rfl⟩
theorem d_T_find_54 : hg_D Y_T_find 54 57 3 (.iinc 6 1) := ⟨by decide +kernel, rfl⟩
theorem d_T_find_57 : hg_D Y_T_find 57 60 3 (.goto (-51)) := ⟨by decide +kernel, rfl⟩
theorem d_T_find_60 : hg_D Y_T_find 60 61 1 (.iconst 0) := ⟨by decide +kernel, rfl⟩
theorem d_T_find_61 : hg_D Y_T_find 61 62 1 (.ireturn) := ⟨by decide +kernel, rfl⟩
theorem d_T_run_0 : hg_D Y_T_run 0 2 2 (.iload 4) := ⟨by decide +kernel, rfl⟩
theorem d_T_run_2 : hg_D Y_T_run 2 4 2 (.bipush 40) := ⟨by decide +kernel, rfl⟩
theorem d_T_run_4 : hg_D Y_T_run 4 7 3 (.if_icmp .ne 5) := ⟨by decide +kernel, rfl⟩
theorem d_T_run_7 : hg_D Y_T_run 7 8 1 (.iconst 0) := ⟨by decide +kernel, rfl⟩
theorem d_T_run_8 : hg_D Y_T_run 8 9 1 (.ireturn) := ⟨by decide +kernel, rfl⟩
theorem d_T_run_9 : hg_D Y_T_run 9 10 1 (.aload_n 0) := ⟨by decide +kernel, rfl⟩
theorem d_T_run_10 : hg_D Y_T_run 10 13 3 (.getfield 16) := ⟨by decide +kernel, rfl⟩
theorem d_T_run_13 : hg_D Y_T_run 13 15 2 (.bipush 20) := ⟨by decide +kernel, rfl⟩
theorem d_T_run_15 : hg_D Y_T_run 15 18 3 (.if_icmp .ge 13) := ⟨by decide +kernel, rfl⟩
theorem d_T_run_18 : hg_D Y_T_run 18 19 1 (.aload_n 0) := ⟨by decide +kernel, rfl⟩
theorem d_T_run_19 : hg_D Y_T_run 19 22 3 (.getfield 9) := ⟨by decide +kernel, rfl⟩
theorem d_T_run_22 : hg_D Y_T_run 22 23 1 (.aload_n 0) := ⟨by decide +kernel, rfl⟩
theorem d_T_run_23 : hg_D Y_T_run 23 26 3 (.getfield 16) := ⟨by decide +kernel, rfl⟩
theorem d_T_run_26 : hg_D Y_T_run 26 27 1 (.iload_n 1) := ⟨by decide +kernel, rfl⟩
theorem d_T_run_27 : hg_D Y_T_run 27 28 1 (.iastore) := ⟨by decide +kernel, rfl⟩
theorem d_T_run_28 : hg_D Y_T_run 28 29 1 (.aload_n 0) := ⟨by decide +kernel, rfl⟩
theorem d_T_run_29 : hg_D Y_T_run 29 30 1 (.dup) := ⟨by decide +kernel, rfl⟩
theorem d_T_run_30 : hg_D Y_T_run 30 33 3 (.getfield 16) := ⟨by decide +kernel, rfl⟩
theorem d_T_run_33 : hg_D Y_T_run 33 34 1 (.iconst 1) := ⟨by decide +kernel, rfl⟩
theorem d_T_run_34 : hg_D Y_T_run 34 35 1 (.iadd) := ⟨by decide +kernel, rfl⟩
theorem d_T_run_35 : hg_D Y_T_run 35 38 3 (.putfield 16) := ⟨by decide +kernel, rfl⟩
theorem d_T_run_38 : hg_D Y_T_run 38 41 3 (.getstatic 13) := ⟨by decide +kernel, rfl⟩
theorem d_T_run_41 : hg_D Y_T_run 41 42 1 (.iload_n 2) := ⟨by decide +kernel, rfl⟩
theorem d_T_run_42 : hg_D Y_T_run 42 43 1 (.iaload) := ⟨by decide +kernel, rfl⟩
theorem d_T_run_43 : hg_D Y_T_run 43 45 2 (.istore 5) := ⟨by decide +kernel, rfl⟩
theorem d_T_run_45 : hg_D Y_T_run 45 47 2 (.iload 4) := ⟨by decide +kernel, rfl⟩
theorem d_T_run_47 : hg_D Y_T_run 47 48 1 (.iconst 1) := ⟨by decide +kernel, rfl⟩
theorem d_T_run_48 : hg_D Y_T_run 48 49 1 (.iadd) := ⟨by decide +kernel, rfl⟩
theorem d_T_run_49 : hg_D Y_T_run 49 51 2 (.istore 6) := ⟨by decide +kernel, rfl⟩
theorem d_T_run_51 : hg_D Y_T_run 51 52 1 (.iload_n 1) := ⟨by decide +kernel, rfl⟩
theorem d_T_run_52 : hg_D Y_T_run 52 152 100 (.lookupswitch 270 #[(10, 100), (11, 107), (12, 125), (20, 140), (30, 154), (40, 167), (50, 191), (51, 203), (60, 216), (70, 232), (71, 254)]) := ⟨by decide +kernel, rfl⟩
theorem d_T_run_152 : hg_D Y_T_run 152 153 1 (.iload_n 3) := ⟨by decide +kernel, rfl⟩
theorem d_T_run_153 : hg_D Y_T_run 153 154 1 (.aload_n 0) := ⟨by decide +kernel, rfl⟩
theorem d_T_run_154 : hg_D Y_T_run 154 157 3 (.getfield 26) := ⟨by decide +kernel, rfl⟩
theorem d_T_run_157 : hg_D Y_T_run 157 158 1 (.iadd) := ⟨by decide +kernel, rfl⟩
theorem d_T_run_158 : hg_D Y_T_run 158 159 1 (.ireturn) := ⟨by decide +kernel, rfl⟩
theorem d_T_run_159 : hg_D Y_T_run 159 160 1 (.aload_n 0) := ⟨by decide +kernel, rfl⟩
theorem d_T_run_160 : hg_D Y_T_run 160 161 1 (.iconst 0) := ⟨by decide +kernel, rfl⟩
theorem d_T_run_161 : hg_D Y_T_run 161 162 1 (.aload_n 0) := ⟨by decide +kernel, rfl⟩
theorem d_T_run_162 : hg_D Y_T_run 162 165 3 (.getfield 34) := ⟨by decide +kernel, rfl⟩
theorem d_T_run_165 : hg_D Y_T_run 165 166 1 (.iload_n 3) := ⟨by decide +kernel, rfl⟩
theorem d_T_run_166 : hg_D Y_T_run 166 168 2 (.iload 6) := ⟨by decide +kernel, rfl⟩
theorem d_T_run_168 : hg_D Y_T_run 168 171 3 (.invokevirtual 39) := ⟨by decide +kernel, rfl⟩
theorem d_T_run_171 : hg_D Y_T_run 171 172 1 (.aload_n 0) := ⟨by decide +kernel, rfl⟩
theorem d_T_run_172 : hg_D Y_T_run 172 175 3 (.getfield 38) := ⟨by decide +kernel, rfl⟩
theorem d_T_run_175 : hg_D Y_T_run 175 176 1 (.isub) := ⟨by decide +kernel, rfl⟩
theorem d_T_run_176 : hg_D Y_T_run 176 177 1 (.ireturn) := ⟨by decide +kernel, rfl⟩
theorem d_T_run_177 : hg_D Y_T_run 177 178 1 (.aload_n 0) := ⟨by decide +kernel, rfl⟩
theorem d_T_run_178 : hg_D Y_T_run 178 179 1 (.iconst 1) := ⟨by decide +kernel, rfl⟩
theorem d_T_run_179 : hg_D Y_T_run 179 180 1 (.aload_n 0) := ⟨by decide +kernel, rfl⟩
theorem d_T_run_180 : hg_D Y_T_run 180 183 3 (.getfield 34) := ⟨by decide +kernel, rfl⟩
theorem d_T_run_183 : hg_D Y_T_run 183 184 1 (.iload_n 3) := ⟨by decide +kernel, rfl⟩
theorem d_T_run_184 : hg_D Y_T_run 184 186 2 (.iload 6) := ⟨by decide +kernel, rfl⟩
theorem d_T_run_186 : hg_D Y_T_run 186 189 3 (.invokevirtual 39) := ⟨by decide +kernel, rfl⟩
theorem d_T_run_189 : hg_D Y_T_run 189 190 1 (.iconst 2) := ⟨by decide +kernel, rfl⟩
theorem d_T_run_190 : hg_D Y_T_run 190 191 1 (.imul) := ⟨by decide +kernel, rfl⟩
theorem d_T_run_191 : hg_D Y_T_run 191 192 1 (.ireturn) := ⟨by decide +kernel, rfl⟩
theorem d_T_run_192 : hg_D Y_T_run 192 193 1 (.aload_n 0) := ⟨by decide +kernel, rfl⟩
theorem d_T_run_193 : hg_D Y_T_run 193 194 1 (.iconst 1) := ⟨by decide +kernel, rfl⟩
theorem d_T_run_194 : hg_D Y_T_run 194 196 2 (.iload 5) := ⟨by decide +kernel, rfl⟩
theorem d_T_run_196 : hg_D Y_T_run 196 197 1 (.iload_n 3) := ⟨by decide +kernel, rfl⟩
theorem d_T_run_197 : hg_D Y_T_run 197 199 2 (.iload 6) := ⟨by decide +kernel, rfl⟩
theorem d_T_run_199 : hg_D Y_T_run 199 202 3 (.invokevirtual 39) := ⟨by decide +kernel, rfl⟩
theorem d_T_run_202 : hg_D Y_T_run 202 204 2 (.bipush 6) := ⟨by decide +kernel, rfl⟩
theorem d_T_run_204 : hg_D Y_T_run 204 205 1 (.ixor) := ⟨by decide +kernel, rfl⟩
theorem d_T_run_205 : hg_D Y_T_run 205 206 1 (.ireturn) := ⟨by decide +kernel, rfl⟩
theorem d_T_run_206 : hg_D Y_T_run 206 207 1 (.aload_n 0) := ⟨by decide +kernel, rfl⟩
theorem d_T_run_207 : hg_D Y_T_run 207 208 1 (.iconst 0) := ⟨by decide +kernel, rfl⟩
theorem d_T_run_208 : hg_D Y_T_run 208 210 2 (.iload 5) := ⟨by decide +kernel, rfl⟩
theorem d_T_run_210 : hg_D Y_T_run 210 211 1 (.iload_n 3) := ⟨by decide +kernel, rfl⟩
theorem d_T_run_211 : hg_D Y_T_run 211 212 1 (.iconst 3) := ⟨by decide +kernel, rfl⟩
theorem d_T_run_212 : hg_D Y_T_run 212 213 1 (.imul) := ⟨by decide +kernel, rfl⟩
theorem d_T_run_213 : hg_D Y_T_run 213 215 2 (.iload 6) := ⟨by decide +kernel, rfl⟩
theorem d_T_run_215 : hg_D Y_T_run 215 218 3 (.invokevirtual 39) := ⟨by decide +kernel, rfl⟩
theorem d_T_run_218 : hg_D Y_T_run 218 219 1 (.ireturn) := ⟨by decide +kernel, rfl⟩
theorem d_T_run_219 : hg_D Y_T_run 219 220 1 (.aload_n 0) := ⟨by decide +kernel, rfl⟩
theorem d_T_run_220 : hg_D Y_T_run 220 221 1 (.iconst 2) := ⟨by decide +kernel, rfl⟩
theorem d_T_run_221 : hg_D Y_T_run 221 223 2 (.iload 5) := ⟨by decide +kernel, rfl⟩
theorem d_T_run_223 : hg_D Y_T_run 223 224 1 (.iload_n 3) := ⟨by decide +kernel, rfl⟩
theorem d_T_run_224 : hg_D Y_T_run 224 226 2 (.iload 6) := ⟨by decide +kernel, rfl⟩
theorem d_T_run_226 : hg_D Y_T_run 226 229 3 (.invokevirtual 39) := ⟨by decide +kernel, rfl⟩
theorem d_T_run_229 : hg_D Y_T_run 229 230 1 (.aload_n 0) := ⟨by decide +kernel, rfl⟩
theorem d_T_run_230 : hg_D Y_T_run 230 231 1 (.iconst 1) := ⟨by decide +kernel, rfl⟩
theorem d_T_run_231 : hg_D Y_T_run 231 232 1 (.aload_n 0) := ⟨by decide +kernel, rfl⟩
theorem d_T_run_232 : hg_D Y_T_run 232 235 3 (.getfield 34) := ⟨by decide +kernel, rfl⟩
theorem d_T_run_235 : hg_D Y_T_run 235 236 1 (.iconst 1) := ⟨by decide +kernel, rfl⟩
theorem d_T_run_236 : hg_D Y_T_run 236 238 2 (.iload 6) := ⟨by decide +kernel, rfl⟩
theorem d_T_run_238 : hg_D Y_T_run 238 241 3 (.invokevirtual 39) := ⟨by decide +kernel, rfl⟩
theorem d_T_run_241 : hg_D Y_T_run 241 242 1 (.iadd) := ⟨by decide +kernel, rfl⟩
theorem d_T_run_242 : hg_D Y_T_run 242 243 1 (.ireturn) := ⟨by decide +kernel, rfl⟩
theorem d_T_run_243 : hg_D Y_T_run 243 244 1 (.aload_n 0) := ⟨by decide +kernel, rfl⟩
theorem d_T_run_244 : hg_D Y_T_run 244 245 1 (.iconst 0) := ⟨by decide +kernel, rfl⟩
theorem d_T_run_245 : hg_D Y_T_run 245 247 2 (.iload 5) := ⟨by decide +kernel, rfl⟩
theorem d_T_run_247 : hg_D Y_T_run 247 248 1 (.iload_n 3) := ⟨by decide +kernel, rfl⟩
theorem d_T_run_248 : hg_D Y_T_run 248 250 2 (.iload 6) := ⟨by decide +kernel, rfl⟩
theorem d_T_run_250 : hg_D Y_T_run 250 253 3 (.invokevirtual 39) := ⟨by decide +kernel, rfl⟩
theorem d_T_run_253 : hg_D Y_T_run 253 254 1 (.ineg) := ⟨by decide +kernel, rfl⟩
theorem d_T_run_254 : hg_D Y_T_run 254 255 1 (.ireturn) := ⟨by decide +kernel, rfl⟩
theorem d_T_run_255 : hg_D Y_T_run 255 256 1 (.aload_n 0) := ⟨by decide +kernel, rfl⟩
theorem d_T_run_256 : hg_D Y_T_run 256 257 1 (.iconst 1) := ⟨by decide +kernel, rfl⟩
theorem d_T_run_257 : hg_D Y_T_run 257 259 2 (.iload 5) := ⟨by decide +kernel, rfl⟩
theorem d_T_run_259 : hg_D Y_T_run 259 260 1 (.iload_n 3) := ⟨by decide +kernel, rfl⟩
theorem d_T_run_260 : hg_D Y_T_run 260 261 1 (.iconst 1) := ⟨by decide +kernel, rfl⟩
theorem d_T_run_261 : hg_D Y_T_run 261 262 1 (.iadd) := ⟨by decide +kernel, rfl⟩
theorem d_T_run_262 : hg_D Y_T_run 262 264 2 (.iload 6) := ⟨by decide +kernel, rfl⟩
theorem d_T_run_264 : hg_D Y_T_run 264 267 3 (.invokevirtual 39) := ⟨by decide +kernel, rfl⟩
theorem d_T_run_267 : hg_D Y_T_run 267 268 1 (.ireturn) := ⟨by decide +kernel, rfl⟩
theorem d_T_run_268 : hg_D Y_T_run 268 269 1 (.aload_n 0) := ⟨by decide +kernel, rfl⟩
theorem d_T_run_269 : hg_D Y_T_run 269 270 1 (.iconst 2) := ⟨by decide +kernel, rfl⟩
theorem d_T_run_270 : hg_D Y_T_run 270 272 2 (.iload 5) := ⟨by decide +kernel, rfl⟩
theorem d_T_run_272 : hg_D Y_T_run 272 273 1 (.iload_n 3) := ⟨by decide +kernel, rfl⟩
theorem d_T_run_273 : hg_D Y_T_run 273 274 1 (.aload_n 0) := ⟨by decide +kernel, rfl⟩
theorem d_T_run_274 : hg_D Y_T_run 274 277 3 (.getfield 26) := ⟨by decide +kernel, rfl⟩
theorem d_T_run_277 : hg_D Y_T_run 277 278 1 (.isub) := ⟨by decide +kernel, rfl⟩
theorem d_T_run_278 : hg_D Y_T_run 278 280 2 (.iload 6) := ⟨by decide +kernel, rfl⟩
theorem d_T_run_280 : hg_D Y_T_run 280 283 3 (.invokevirtual 39) := ⟨by decide +kernel, rfl⟩
theorem d_T_run_283 : hg_D Y_T_run 283 284 1 (.ireturn) := ⟨by decide +kernel, rfl⟩
theorem d_T_run_284 : hg_D Y_T_run 284 285 1 (.aload_n 0) := ⟨by decide +kernel, rfl⟩
theorem d_T_run_285 : hg_D Y_T_run 285 286 1 (.iconst 1) := ⟨by decide +kernel, rfl⟩
theorem d_T_run_286 : hg_D Y_T_run 286 288 2 (.iload 5) := ⟨by decide +kernel, rfl⟩
theorem d_T_run_288 : hg_D Y_T_run 288 289 1 (.iload_n 3) := ⟨by decide +kernel, rfl⟩
theorem d_T_run_289 : hg_D Y_T_run 289 291 2 (.iload 6) := ⟨by decide +kernel, rfl⟩
theorem d_T_run_291 : hg_D Y_T_run 291 294 3 (.invokevirtual 39) := ⟨by decide +kernel, rfl⟩
theorem d_T_run_294 : hg_D Y_T_run 294 295 1 (.aload_n 0) := ⟨by decide +kernel, rfl⟩
theorem d_T_run_295 : hg_D Y_T_run 295 296 1 (.iconst 0) := ⟨by decide +kernel, rfl⟩
theorem d_T_run_296 : hg_D Y_T_run 296 298 2 (.iload 5) := ⟨by decide +kernel, rfl⟩
theorem d_T_run_298 : hg_D Y_T_run 298 299 1 (.iconst 2) := ⟨by decide +kernel, rfl⟩
theorem d_T_run_299 : hg_D Y_T_run 299 301 2 (.iload 6) := ⟨by decide +kernel, rfl⟩
theorem d_T_run_301 : hg_D Y_T_run 301 304 3 (.invokevirtual 39) := ⟨by decide +kernel, rfl⟩
theorem d_T_run_304 : hg_D Y_T_run 304 305 1 (.iadd) := ⟨by decide +kernel, rfl⟩
theorem d_T_run_305 : hg_D Y_T_run 305 306 1 (.ireturn) := ⟨by decide +kernel, rfl⟩
theorem d_T_run_306 : hg_D Y_T_run 306 307 1 (.aload_n 0) := ⟨by decide +kernel, rfl⟩
theorem d_T_run_307 : hg_D Y_T_run 307 308 1 (.iconst 0) := ⟨by decide +kernel, rfl⟩
theorem d_T_run_308 : hg_D Y_T_run 308 310 2 (.iload 5) := ⟨by decide +kernel, rfl⟩
theorem d_T_run_310 : hg_D Y_T_run 310 311 1 (.iload_n 3) := ⟨by decide +kernel, rfl⟩
theorem d_T_run_311 : hg_D Y_T_run 311 313 2 (.iload 6) := ⟨by decide +kernel, rfl⟩
theorem d_T_run_313 : hg_D Y_T_run 313 316 3 (.invokevirtual 39) := ⟨by decide +kernel, rfl⟩
theorem d_T_run_316 : hg_D Y_T_run 316 317 1 (.aload_n 0) := ⟨by decide +kernel, rfl⟩
theorem d_T_run_317 : hg_D Y_T_run 317 320 3 (.getfield 38) := ⟨by decide +kernel, rfl⟩
theorem d_T_run_320 : hg_D Y_T_run 320 321 1 (.ixor) := ⟨by decide +kernel, rfl⟩
theorem d_T_run_321 : hg_D Y_T_run 321 322 1 (.ireturn) := ⟨by decide +kernel, rfl⟩
theorem d_T_run_322 : hg_D Y_T_run 322 323 1 (.iconst 0) := ⟨by decide +kernel, rfl⟩
theorem d_T_run_323 : hg_D Y_T_run 323 324 1 (.ireturn) := ⟨by decide +kernel, rfl⟩
theorem d_P_init_0 : hg_D Y_P_init 0 1 1 (.aload_n 0) := ⟨by decide +kernel, rfl⟩
theorem d_P_init_1 : hg_D Y_P_init 1 4 3 (.invokespecial 1) := ⟨by decide +kernel, rfl⟩
theorem d_P_init_4 : hg_D Y_P_init 4 5 1 (.aload_n 0) := ⟨by decide +kernel, rfl⟩
theorem d_P_init_5 : hg_D Y_P_init 5 6 1 (.iconst (-1)) := ⟨by decide +kernel, rfl⟩
theorem d_P_init_6 : hg_D Y_P_init 6 9 3 (.putfield 9) := ⟨by decide +kernel, rfl⟩
theorem d_P_init_9 : hg_D Y_P_init 9 10 1 (.aload_n 0) := ⟨by decide +kernel, rfl⟩
theorem d_P_init_10 : hg_D Y_P_init 10 12 2 (.bipush 60) := ⟨by decide +kernel, rfl⟩
theorem d_P_init_12 : hg_D Y_P_init 12 14 2 (.newarray .long) := ⟨by decide +kernel, rfl⟩
theorem d_P_init_14 : hg_D Y_P_init 14 17 3 (.putfield 13) := ⟨by decide +kernel, rfl⟩
theorem d_P_init_17 : hg_D Y_P_init 17 18 1 (.return_) := ⟨by decide +kernel, rfl⟩
theorem d_P_hold_0 : hg_D Y_P_hold 0 1 1 (.aload_n 0) := ⟨by decide +kernel, rfl⟩
theorem d_P_hold_1 : hg_D Y_P_hold 1 2 1 (.iload_n 1) := ⟨by decide +kernel, rfl⟩
theorem d_P_hold_2 : hg_D Y_P_hold 2 5 3 (.putfield 9) := ⟨by decide +kernel, rfl⟩
theorem d_P_hold_5 : hg_D Y_P_hold 5 6 1 (.aload_n 0) := ⟨by decide +kernel, rfl⟩
theorem d_P_hold_6 : hg_D Y_P_hold 6 7 1 (.iload_n 2) := ⟨by decide +kernel, rfl⟩
theorem d_P_hold_7 : hg_D Y_P_hold 7 10 3 (.putfield 17) := ⟨by decide +kernel, rfl⟩
theorem d_P_hold_10 : hg_D Y_P_hold 10 11 1 (.iconst 0) := ⟨by decide +kernel, rfl⟩
theorem d_P_hold_11 : hg_D Y_P_hold 11 12 1 (.istore_n 3) := ⟨by decide +kernel, rfl⟩
theorem d_P_hold_12 : hg_D Y_P_hold 12 13 1 (.iload_n 3) := ⟨by decide +kernel, rfl⟩
theorem d_P_hold_13 : hg_D Y_P_hold 13 15 2 (.bipush 60) := ⟨by decide +kernel, rfl⟩
theorem d_P_hold_15 : hg_D Y_P_hold 15 18 3 (.if_icmp .ge 16) := ⟨by decide +kernel, rfl⟩
theorem d_P_hold_18 : hg_D Y_P_hold 18 19 1 (.aload_n 0) := ⟨by decide +kernel, rfl⟩
theorem d_P_hold_19 : hg_D Y_P_hold 19 22 3 (.getfield 13) := ⟨by decide +kernel, rfl⟩
theorem d_P_hold_22 : hg_D Y_P_hold 22 23 1 (.iload_n 3) := ⟨by decide +kernel, rfl⟩
theorem d_P_hold_23 : hg_D Y_P_hold 23 24 1 (.lconst 0) := ⟨by decide +kernel, rfl⟩
theorem d_P_hold_24 : hg_D Y_P_hold 24 25 1 (.lastore) := ⟨by decide +kernel, rfl⟩
theorem d_P_hold_25 : hg_D Y_P_hold 25 28 3 (.iinc 3 1) := ⟨by decide +kernel, rfl⟩
theorem d_P_hold_28 : hg_D Y_P_hold 28 31 3 (.goto (-16)) := ⟨by decide +kernel, rfl⟩
theorem d_P_hold_31 : hg_D Y_P_hold 31 32 1 (.return_) := ⟨by decide +kernel, rfl⟩
theorem d_P_has_0 : hg_D Y_P_has 0 1 1 (.iload_n 1) := ⟨by decide +kernel, rfl⟩
theorem d_P_has_1 : hg_D Y_P_has 1 4 3 (.ifCond .lt 15) := ⟨by decide +kernel, rfl⟩
theorem d_P_has_4 : hg_D Y_P_has 4 5 1 (.iload_n 1) := ⟨by decide +kernel, rfl⟩
theorem d_P_has_5 : hg_D Y_P_has 5 6 1 (.aload_n 0) := ⟨by decide +kernel, rfl⟩
theorem d_P_has_6 : hg_D Y_P_has 6 9 3 (.getfield 17) := ⟨by decide +kernel, rfl⟩
theorem d_P_has_9 : hg_D Y_P_has 9 12 3 (.if_icmp .ge 7) := ⟨by decide +kernel, rfl⟩
theorem d_P_has_12 : hg_D Y_P_has 12 13 1 (.iconst 1) := ⟨by decide +kernel, rfl⟩
theorem d_P_has_13 : hg_D Y_P_has 13 16 3 (.goto 4) := ⟨by decide +kernel, rfl⟩
theorem d_P_has_16 : hg_D Y_P_has 16 17 1 (.iconst 0) := ⟨by decide +kernel, rfl⟩
theorem d_P_has_17 : hg_D Y_P_has 17 18 1 (.ireturn) := ⟨by decide +kernel, rfl⟩
theorem d_P_hasAll_0 : hg_D Y_P_hasAll 0 1 1 (.iload_n 2) := ⟨by decide +kernel, rfl⟩
theorem d_P_hasAll_1 : hg_D Y_P_hasAll 1 4 3 (.ifCond .lt 29) := ⟨by decide +kernel, rfl⟩
theorem d_P_hasAll_4 : hg_D Y_P_hasAll 4 5 1 (.iload_n 2) := ⟨by decide +kernel, rfl⟩
theorem d_P_hasAll_5 : hg_D Y_P_hasAll 5 6 1 (.aload_n 0) := ⟨by decide +kernel, rfl⟩
theorem d_P_hasAll_6 : hg_D Y_P_hasAll 6 9 3 (.getfield 17) := ⟨by decide +kernel, rfl⟩
theorem d_P_hasAll_9 : hg_D Y_P_hasAll 9 12 3 (.if_icmp .gt 21) := ⟨by decide +kernel, rfl⟩
theorem d_P_hasAll_12 : hg_D Y_P_hasAll 12 13 1 (.iload_n 1) := ⟨by decide +kernel, rfl⟩
theorem d_P_hasAll_13 : hg_D Y_P_hasAll 13 16 3 (.ifCond .lt 17) := ⟨by decide +kernel, rfl⟩
theorem d_P_hasAll_16 : hg_D Y_P_hasAll 16 17 1 (.iload_n 1) := ⟨by decide +kernel, rfl⟩
theorem d_P_hasAll_17 : hg_D Y_P_hasAll 17 18 1 (.aload_n 0) := ⟨by decide +kernel, rfl⟩
theorem d_P_hasAll_18 : hg_D Y_P_hasAll 18 21 3 (.getfield 17) := ⟨by decide +kernel, rfl⟩
theorem d_P_hasAll_21 : hg_D Y_P_hasAll 21 22 1 (.iload_n 2) := ⟨by decide +kernel, rfl⟩
theorem d_P_hasAll_22 : hg_D Y_P_hasAll 22 23 1 (.isub) := ⟨by decide +kernel, rfl⟩
theorem d_P_hasAll_23 : hg_D Y_P_hasAll 23 26 3 (.if_icmp .gt 7) := ⟨by decide +kernel, rfl⟩
theorem d_P_hasAll_26 : hg_D Y_P_hasAll 26 27 1 (.iconst 1) := ⟨by decide +kernel, rfl⟩
theorem d_P_hasAll_27 : hg_D Y_P_hasAll 27 30 3 (.goto 4) := ⟨by decide +kernel, rfl⟩
theorem d_P_hasAll_30 : hg_D Y_P_hasAll 30 31 1 (.iconst 0) := ⟨by decide +kernel, rfl⟩
theorem d_P_hasAll_31 : hg_D Y_P_hasAll 31 32 1 (.ireturn) := ⟨by decide +kernel, rfl⟩
theorem d_P_cut_0 : hg_D Y_P_cut 0 1 1 (.aload_n 0) := ⟨by decide +kernel, rfl⟩
theorem d_P_cut_1 : hg_D Y_P_cut 1 4 3 (.getfield 9) := ⟨by decide +kernel, rfl⟩
theorem d_P_cut_4 : hg_D Y_P_cut 4 40 36 (.tableswitch 62 0 4 #[36, 41, 46, 62, 50]) := ⟨by decide +kernel, rfl⟩
theorem d_P_cut_40 : hg_D Y_P_cut 40 41 1 (.lload_n 1) := ⟨by decide +kernel, rfl⟩
theorem d_P_cut_41 : hg_D Y_P_cut 41 42 1 (.l2i) := ⟨by decide +kernel, rfl⟩
theorem d_P_cut_42 : hg_D Y_P_cut 42 43 1 (.i2b) := ⟨by decide +kernel, rfl⟩
theorem d_P_cut_43 : hg_D Y_P_cut 43 44 1 (.i2l) := ⟨by decide +kernel, rfl⟩
theorem d_P_cut_44 : hg_D Y_P_cut 44 45 1 (.lreturn) := ⟨by decide +kernel, rfl⟩
theorem d_P_cut_45 : hg_D Y_P_cut 45 46 1 (.lload_n 1) := ⟨by decide +kernel, rfl⟩
theorem d_P_cut_46 : hg_D Y_P_cut 46 47 1 (.l2i) := ⟨by decide +kernel, rfl⟩
theorem d_P_cut_47 : hg_D Y_P_cut 47 48 1 (.i2s) := ⟨by decide +kernel, rfl⟩
theorem d_P_cut_48 : hg_D Y_P_cut 48 49 1 (.i2l) := ⟨by decide +kernel, rfl⟩
theorem d_P_cut_49 : hg_D Y_P_cut 49 50 1 (.lreturn) := ⟨by decide +kernel, rfl⟩
theorem d_P_cut_50 : hg_D Y_P_cut 50 51 1 (.lload_n 1) := ⟨by decide +kernel, rfl⟩
theorem d_P_cut_51 : hg_D Y_P_cut 51 52 1 (.l2i) := ⟨by decide +kernel, rfl⟩
theorem d_P_cut_52 : hg_D Y_P_cut 52 53 1 (.i2l) := ⟨by decide +kernel, rfl⟩
theorem d_P_cut_53 : hg_D Y_P_cut 53 54 1 (.lreturn) := ⟨by decide +kernel, rfl⟩
theorem d_P_cut_54 : hg_D Y_P_cut 54 55 1 (.lload_n 1) := ⟨by decide +kernel, rfl⟩
theorem d_P_cut_55 : hg_D Y_P_cut 55 56 1 (.lconst 0) := ⟨by decide +kernel, rfl⟩
theorem d_P_cut_56 : hg_D Y_P_cut 56 57 1 (.lcmp) := ⟨by decide +kernel, rfl⟩
theorem d_P_cut_57 : hg_D Y_P_cut 57 60 3 (.ifCond .eq 7) := ⟨by decide +kernel, rfl⟩
theorem d_P_cut_60 : hg_D Y_P_cut 60 61 1 (.lconst 1) := ⟨by decide +kernel, rfl⟩
theorem d_P_cut_61 : hg_D Y_P_cut 61 64 3 (.goto 4) := ⟨by decide +kernel, rfl⟩
theorem d_P_cut_64 : hg_D Y_P_cut 64 65 1 (.lconst 0) := ⟨by decide +kernel, rfl⟩
theorem d_P_cut_65 : hg_D Y_P_cut 65 66 1 (.lreturn) := ⟨by decide +kernel, rfl⟩
theorem d_P_cut_66 : hg_D Y_P_cut 66 67 1 (.lload_n 1) := ⟨by decide +kernel, rfl⟩
theorem d_P_cut_67 : hg_D Y_P_cut 67 68 1 (.lreturn) := ⟨by decide +kernel, rfl⟩
theorem d_O_init_0 : hg_D Y_O_init 0 1 1 (.aload_n 0) := ⟨by decide +kernel, rfl⟩
theorem d_O_init_1 : hg_D Y_O_init 1 4 3 (.invokespecial 1) := ⟨by decide +kernel, rfl⟩
theorem d_O_init_4 : hg_D Y_O_init 4 5 1 (.aload_n 0) := ⟨by decide +kernel, rfl⟩
theorem d_O_init_5 : hg_D Y_O_init 5 6 1 (.iload_n 2) := ⟨by decide +kernel, rfl⟩
theorem d_O_init_6 : hg_D Y_O_init 6 8 2 (.newarray .int) := ⟨by decide +kernel, rfl⟩
theorem d_O_init_8 : hg_D Y_O_init 8 11 3 (.putfield 7) := ⟨by decide +kernel, rfl⟩
theorem d_O_init_11 : hg_D Y_O_init 11 12 1 (.aload_n 1) := ⟨by decide +kernel, rfl⟩
theorem d_O_init_12 : hg_D Y_O_init 12 13 1 (.iconst 0) := ⟨by decide +kernel, rfl⟩
theorem d_O_init_13 : hg_D Y_O_init 13 14 1 (.aload_n 0) := ⟨by decide +kernel, rfl⟩
theorem d_O_init_14 : hg_D Y_O_init 14 17 3 (.getfield 7) := ⟨by decide +kernel, rfl⟩
theorem d_O_init_17 : hg_D Y_O_init 17 18 1 (.iconst 0) := ⟨by decide +kernel, rfl⟩
theorem d_O_init_18 : hg_D Y_O_init 18 19 1 (.iload_n 2) := ⟨by decide +kernel, rfl⟩
theorem d_O_init_19 : hg_D Y_O_init 19 22 3 (.invokestatic 13) := ⟨by decide +kernel, rfl⟩
theorem d_O_init_22 : hg_D Y_O_init 22 23 1 (.aload_n 0) := ⟨by decide +kernel, rfl⟩
theorem d_O_init_23 : hg_D Y_O_init 23 24 1 (.iload_n 3) := ⟨by decide +kernel, rfl⟩
theorem d_O_init_24 : hg_D Y_O_init 24 27 3 (.putfield 19) := ⟨by decide +kernel, rfl⟩
theorem d_O_init_27 : hg_D Y_O_init 27 28 1 (.return_) := ⟨by decide +kernel, rfl⟩
theorem d_O_fearOf_0 : hg_D Y_O_fearOf 0 1 1 (.iconst 0) := ⟨by decide +kernel, rfl⟩
theorem d_O_fearOf_1 : hg_D Y_O_fearOf 1 2 1 (.istore_n 2) := ⟨by decide +kernel, rfl⟩
theorem d_O_fearOf_2 : hg_D Y_O_fearOf 2 3 1 (.iconst 0) := ⟨by decide +kernel, rfl⟩
theorem d_O_fearOf_3 : hg_D Y_O_fearOf 3 4 1 (.istore_n 3) := ⟨by decide +kernel, rfl⟩
theorem d_O_fearOf_4 : hg_D Y_O_fearOf 4 5 1 (.aload_n 0) := ⟨by decide +kernel, rfl⟩
theorem d_O_fearOf_5 : hg_D Y_O_fearOf 5 8 3 (.getfield 7) := ⟨by decide +kernel, rfl⟩
theorem d_O_fearOf_8 : hg_D Y_O_fearOf 8 10 2 (.astore 4) := ⟨by decide +kernel, rfl⟩
theorem d_O_fearOf_10 : hg_D Y_O_fearOf 10 12 2 (.aload 4) := ⟨by decide +kernel, rfl⟩
theorem d_O_fearOf_12 : hg_D Y_O_fearOf 12 13 1 (.arraylength) := ⟨by decide +kernel, rfl⟩
theorem d_O_fearOf_13 : hg_D Y_O_fearOf 13 15 2 (.istore 5) := ⟨by decide +kernel, rfl⟩
theorem d_O_fearOf_15 : hg_D Y_O_fearOf 15 16 1 (.iconst 0) := ⟨by decide +kernel, rfl⟩
theorem d_O_fearOf_16 : hg_D Y_O_fearOf 16 18 2 (.istore 6) := ⟨by decide +kernel, rfl⟩
theorem d_O_fearOf_18 : hg_D Y_O_fearOf 18 20 2 (.iload 6) := ⟨by decide +kernel, rfl⟩
theorem d_O_fearOf_20 : hg_D Y_O_fearOf 20 22 2 (.iload 5) := ⟨by decide +kernel, rfl⟩
theorem d_O_fearOf_22 : hg_D Y_O_fearOf 22 25 3 (.if_icmp .ge 191) := ⟨by decide +kernel, rfl⟩
theorem d_O_fearOf_25 : hg_D Y_O_fearOf 25 27 2 (.aload 4) := ⟨by decide +kernel, rfl⟩
theorem d_O_fearOf_27 : hg_D Y_O_fearOf 27 29 2 (.iload 6) := ⟨by decide +kernel, rfl⟩
theorem d_O_fearOf_29 : hg_D Y_O_fearOf 29 30 1 (.iaload) := ⟨by decide +kernel, rfl⟩
theorem d_O_fearOf_30 : hg_D Y_O_fearOf 30 32 2 (.istore 7) := ⟨by decide +kernel, rfl⟩
theorem d_O_fearOf_32 : hg_D Y_O_fearOf 32 34 2 (.iload 7) := ⟨by decide +kernel, rfl⟩
theorem d_O_fearOf_34 : hg_D Y_O_fearOf 34 36 2 (.bipush 6) := ⟨by decide +kernel, rfl⟩
theorem d_O_fearOf_36 : hg_D Y_O_fearOf 36 37 1 (.ishr) := ⟨by decide +kernel, rfl⟩
theorem d_O_fearOf_37 : hg_D Y_O_fearOf 37 39 2 (.istore 8) := ⟨by decide +kernel, rfl⟩
theorem d_O_fearOf_39 : hg_D Y_O_fearOf 39 40 1 (.aload_n 1) := ⟨by decide +kernel, rfl⟩
theorem d_O_fearOf_40 : hg_D Y_O_fearOf 40 42 2 (.iload 7) := ⟨by decide +kernel, rfl⟩
theorem d_O_fearOf_42 : hg_D Y_O_fearOf 42 43 1 (.iconst 3) := ⟨by decide +kernel, rfl⟩
theorem d_O_fearOf_43 : hg_D Y_O_fearOf 43 44 1 (.ishr) := ⟨by decide +kernel, rfl⟩
theorem d_O_fearOf_44 : hg_D Y_O_fearOf 44 46 2 (.bipush 7) := ⟨by decide +kernel, rfl⟩
theorem d_O_fearOf_46 : hg_D Y_O_fearOf 46 47 1 (.iand) := ⟨by decide +kernel, rfl⟩
theorem d_O_fearOf_47 : hg_D Y_O_fearOf 47 48 1 (.iaload) := ⟨by decide +kernel, rfl⟩
theorem d_O_fearOf_48 : hg_D Y_O_fearOf 48 50 2 (.istore 9) := ⟨by decide +kernel, rfl⟩
theorem d_O_fearOf_50 : hg_D Y_O_fearOf 50 52 2 (.iload 7) := ⟨by decide +kernel, rfl⟩
theorem d_O_fearOf_52 : hg_D Y_O_fearOf 52 54 2 (.bipush 7) := ⟨by decide +kernel, rfl⟩
theorem d_O_fearOf_54 : hg_D Y_O_fearOf 54 55 1 (.iand) := ⟨by decide +kernel, rfl⟩
theorem d_O_fearOf_55 : hg_D Y_O_fearOf 55 96 41 (.tableswitch 143 0 6 #[41, 61, 81, 101, 108, 120, 131]) := ⟨by decide +kernel, rfl⟩
theorem d_O_fearOf_96 : hg_D Y_O_fearOf 96 97 1 (.iload_n 3) := ⟨by decide +kernel, rfl⟩
theorem d_O_fearOf_97 : hg_D Y_O_fearOf 97 98 1 (.iconst 1) := ⟨by decide +kernel, rfl⟩
theorem d_O_fearOf_98 : hg_D Y_O_fearOf 98 99 1 (.ishl) := ⟨by decide +kernel, rfl⟩
theorem d_O_fearOf_99 : hg_D Y_O_fearOf 99 101 2 (.iload 9) := ⟨by decide +kernel, rfl⟩
theorem d_O_fearOf_101 : hg_D Y_O_fearOf 101 103 2 (.iload 8) := ⟨by decide +kernel, rfl⟩
theorem d_O_fearOf_103 : hg_D Y_O_fearOf 103 106 3 (.if_icmp .ge 7) := ⟨by decide +kernel, rfl⟩
theorem d_O_fearOf_106 : hg_D Y_O_fearOf 106 107 1 (.iconst 1) := ⟨by decide +kernel, rfl⟩
theorem d_O_fearOf_107 : hg_D Y_O_fearOf 107 110 3 (.goto 4) := ⟨by decide +kernel, rfl⟩
theorem d_O_fearOf_110 : hg_D Y_O_fearOf 110 111 1 (.iconst 0) := ⟨by decide +kernel, rfl⟩
theorem d_O_fearOf_111 : hg_D Y_O_fearOf 111 112 1 (.ior) := ⟨by decide +kernel, rfl⟩
theorem d_O_fearOf_112 : hg_D Y_O_fearOf 112 113 1 (.istore_n 3) := ⟨by decide +kernel, rfl⟩
theorem d_O_fearOf_113 : hg_D Y_O_fearOf 113 116 3 (.goto 94) := ⟨by decide +kernel, rfl⟩
theorem d_O_fearOf_116 : hg_D Y_O_fearOf 116 117 1 (.iload_n 3) := ⟨by decide +kernel, rfl⟩
theorem d_O_fearOf_117 : hg_D Y_O_fearOf 117 118 1 (.iconst 1) := ⟨by decide +kernel, rfl⟩
theorem d_O_fearOf_118 : hg_D Y_O_fearOf 118 119 1 (.ishl) := ⟨by decide +kernel, rfl⟩
theorem d_O_fearOf_119 : hg_D Y_O_fearOf 119 121 2 (.iload 9) := ⟨by decide +kernel, rfl⟩
theorem d_O_fearOf_121 : hg_D Y_O_fearOf 121 123 2 (.iload 8) := ⟨by decide +kernel, rfl⟩
theorem d_O_fearOf_123 : hg_D Y_O_fearOf 123 126 3 (.if_icmp .ne 7) := ⟨by decide +kernel, rfl⟩
theorem d_O_fearOf_126 : hg_D Y_O_fearOf 126 127 1 (.iconst 1) := ⟨by decide +kernel, rfl⟩
theorem d_O_fearOf_127 : hg_D Y_O_fearOf 127 130 3 (.goto 4) := ⟨by decide +kernel, rfl⟩
theorem d_O_fearOf_130 : hg_D Y_O_fearOf 130 131 1 (.iconst 0) := ⟨by decide +kernel, rfl⟩
theorem d_O_fearOf_131 : hg_D Y_O_fearOf 131 132 1 (.ior) := ⟨by decide +kernel, rfl⟩
theorem d_O_fearOf_132 : hg_D Y_O_fearOf 132 133 1 (.istore_n 3) := ⟨by decide +kernel, rfl⟩
theorem d_O_fearOf_133 : hg_D Y_O_fearOf 133 136 3 (.goto 74) := ⟨by decide +kernel, rfl⟩
theorem d_O_fearOf_136 : hg_D Y_O_fearOf 136 137 1 (.iload_n 3) := ⟨by decide +kernel, rfl⟩
theorem d_O_fearOf_137 : hg_D Y_O_fearOf 137 138 1 (.iconst 1) := ⟨by decide +kernel, rfl⟩
theorem d_O_fearOf_138 : hg_D Y_O_fearOf 138 139 1 (.ishl) := ⟨by decide +kernel, rfl⟩
theorem d_O_fearOf_139 : hg_D Y_O_fearOf 139 141 2 (.iload 9) := ⟨by decide +kernel, rfl⟩
theorem d_O_fearOf_141 : hg_D Y_O_fearOf 141 143 2 (.iload 8) := ⟨by decide +kernel, rfl⟩
theorem d_O_fearOf_143 : hg_D Y_O_fearOf 143 146 3 (.if_icmp .le 7) := ⟨by decide +kernel, rfl⟩
theorem d_O_fearOf_146 : hg_D Y_O_fearOf 146 147 1 (.iconst 1) := ⟨by decide +kernel, rfl⟩
theorem d_O_fearOf_147 : hg_D Y_O_fearOf 147 150 3 (.goto 4) := ⟨by decide +kernel, rfl⟩
theorem d_O_fearOf_150 : hg_D Y_O_fearOf 150 151 1 (.iconst 0) := ⟨by decide +kernel, rfl⟩
theorem d_O_fearOf_151 : hg_D Y_O_fearOf 151 152 1 (.ior) := ⟨by decide +kernel, rfl⟩
theorem d_O_fearOf_152 : hg_D Y_O_fearOf 152 153 1 (.istore_n 3) := ⟨by decide +kernel, rfl⟩
theorem d_O_fearOf_153 : hg_D Y_O_fearOf 153 156 3 (.goto 54) := ⟨by decide +kernel, rfl⟩
theorem d_O_fearOf_156 : hg_D Y_O_fearOf 156 157 1 (.iload_n 3) := ⟨by decide +kernel, rfl⟩
theorem d_O_fearOf_157 : hg_D Y_O_fearOf 157 158 1 (.iconst 1) := ⟨by decide +kernel, rfl⟩
theorem d_O_fearOf_158 : hg_D Y_O_fearOf 158 159 1 (.ixor) := ⟨by decide +kernel, rfl⟩
theorem d_O_fearOf_159 : hg_D Y_O_fearOf 159 160 1 (.istore_n 3) := ⟨by decide +kernel, rfl⟩
theorem d_O_fearOf_160 : hg_D Y_O_fearOf 160 163 3 (.goto 47) := ⟨by decide +kernel, rfl⟩
theorem d_O_fearOf_163 : hg_D Y_O_fearOf 163 164 1 (.iload_n 3) := ⟨by decide +kernel, rfl⟩
theorem d_O_fearOf_164 : hg_D Y_O_fearOf 164 165 1 (.iconst 1) := ⟨by decide +kernel, rfl⟩
theorem d_O_fearOf_165 : hg_D Y_O_fearOf 165 166 1 (.ishr) := ⟨by decide +kernel, rfl⟩
theorem d_O_fearOf_166 : hg_D Y_O_fearOf 166 167 1 (.iload_n 3) := ⟨by decide +kernel, rfl⟩
theorem d_O_fearOf_167 : hg_D Y_O_fearOf 167 169 2 (.bipush (-2)) := ⟨by decide +kernel, rfl⟩
theorem d_O_fearOf_169 : hg_D Y_O_fearOf 169 170 1 (.ior) := ⟨by decide +kernel, rfl⟩
theorem d_O_fearOf_170 : hg_D Y_O_fearOf 170 171 1 (.iand) := ⟨by decide +kernel, rfl⟩
theorem d_O_fearOf_171 : hg_D Y_O_fearOf 171 172 1 (.istore_n 3) := ⟨by decide +kernel, rfl⟩
theorem d_O_fearOf_172 : hg_D Y_O_fearOf 172 175 3 (.goto 35) := ⟨by decide +kernel, rfl⟩
theorem d_O_fearOf_175 : hg_D Y_O_fearOf 175 176 1 (.iload_n 3) := ⟨by decide +kernel, rfl⟩
theorem d_O_fearOf_176 : hg_D Y_O_fearOf 176 177 1 (.iconst 1) := ⟨by decide +kernel, rfl⟩
theorem d_O_fearOf_177 : hg_D Y_O_fearOf 177 178 1 (.ishr) := ⟨by decide +kernel, rfl⟩
theorem d_O_fearOf_178 : hg_D Y_O_fearOf 178 179 1 (.iload_n 3) := ⟨by decide +kernel, rfl⟩
theorem d_O_fearOf_179 : hg_D Y_O_fearOf 179 180 1 (.iconst 1) := ⟨by decide +kernel, rfl⟩
theorem d_O_fearOf_180 : hg_D Y_O_fearOf 180 181 1 (.iand) := ⟨by decide +kernel, rfl⟩
theorem d_O_fearOf_181 : hg_D Y_O_fearOf 181 182 1 (.ior) := ⟨by decide +kernel, rfl⟩
theorem d_O_fearOf_182 : hg_D Y_O_fearOf 182 183 1 (.istore_n 3) := ⟨by decide +kernel, rfl⟩
theorem d_O_fearOf_183 : hg_D Y_O_fearOf 183 186 3 (.goto 24) := ⟨by decide +kernel, rfl⟩
theorem d_O_fearOf_186 : hg_D Y_O_fearOf 186 187 1 (.iload_n 2) := ⟨by decide +kernel, rfl⟩
theorem d_O_fearOf_187 : hg_D Y_O_fearOf 187 188 1 (.iload_n 3) := ⟨by decide +kernel, rfl⟩
theorem d_O_fearOf_188 : hg_D Y_O_fearOf 188 190 2 (.iload 8) := ⟨by decide +kernel, rfl⟩
theorem d_O_fearOf_190 : hg_D Y_O_fearOf 190 191 1 (.imul) := ⟨by decide +kernel, rfl⟩
theorem d_O_fearOf_191 : hg_D Y_O_fearOf 191 192 1 (.iadd) := ⟨by decide +kernel, rfl⟩
theorem d_O_fearOf_192 : hg_D Y_O_fearOf 192 193 1 (.istore_n 2) := ⟨by decide +kernel, rfl⟩
theorem d_O_fearOf_193 : hg_D Y_O_fearOf 193 194 1 (.iconst 0) := ⟨by decide +kernel, rfl⟩
theorem d_O_fearOf_194 : hg_D Y_O_fearOf 194 195 1 (.istore_n 3) := ⟨by decide +kernel, rfl⟩
theorem d_O_fearOf_195 : hg_D Y_O_fearOf 195 198 3 (.goto 12) := ⟨by decide +kernel, rfl⟩
theorem d_O_fearOf_198 : hg_D Y_O_fearOf 198 199 1 (.iload_n 2) := ⟨by decide +kernel, rfl⟩
theorem d_O_fearOf_199 : hg_D Y_O_fearOf 199 200 1 (.iload_n 3) := ⟨by decide +kernel, rfl⟩
theorem d_O_fearOf_200 : hg_D Y_O_fearOf 200 202 2 (.iload 8) := ⟨by decide +kernel, rfl⟩
theorem d_O_fearOf_202 : hg_D Y_O_fearOf 202 203 1 (.imul) := ⟨by decide +kernel, rfl⟩
theorem d_O_fearOf_203 : hg_D Y_O_fearOf 203 204 1 (.isub) := ⟨by decide +kernel, rfl⟩
theorem d_O_fearOf_204 : hg_D Y_O_fearOf 204 205 1 (.istore_n 2) := ⟨by decide +kernel, rfl⟩
theorem d_O_fearOf_205 : hg_D Y_O_fearOf 205 206 1 (.iconst 0) := ⟨by decide +kernel, rfl⟩
theorem d_O_fearOf_206 : hg_D Y_O_fearOf 206 207 1 (.istore_n 3) := ⟨by decide +kernel, rfl⟩
theorem d_O_fearOf_207 : hg_D Y_O_fearOf 207 210 3 (.iinc 6 1) := ⟨by decide +kernel, rfl⟩
theorem d_O_fearOf_210 : hg_D Y_O_fearOf 210 213 3 (.goto (-192)) := ⟨by decide +kernel, rfl⟩
theorem d_O_fearOf_213 : hg_D Y_O_fearOf 213 214 1 (.iload_n 2) := ⟨by decide +kernel, rfl⟩
theorem d_O_fearOf_214 : hg_D Y_O_fearOf 214 215 1 (.ireturn) := ⟨by decide +kernel, rfl⟩
theorem d_JS_length_0 : hg_D Y_JS_length 0 1 1 (.aload_n 0) := ⟨by decide +kernel, rfl⟩
theorem d_JS_length_1 : hg_D Y_JS_length 1 4 3 (.getfield 9) := ⟨by decide +kernel, rfl⟩
theorem d_JS_length_4 : hg_D Y_JS_length 4 5 1 (.arraylength) := ⟨by decide +kernel, rfl⟩
theorem d_JS_length_5 : hg_D Y_JS_length 5 6 1 (.aload_n 0) := ⟨by decide +kernel, rfl⟩
theorem d_JS_length_6 : hg_D Y_JS_length 6 9 3 (.invokevirtual 335) := ⟨by decide +kernel, rfl⟩
theorem d_JS_length_9 : hg_D Y_JS_length 9 10 1 (.ishr) := ⟨by decide +kernel, rfl⟩
theorem d_JS_length_10 : hg_D Y_JS_length 10 11 1 (.ireturn) := ⟨by decide +kernel, rfl⟩
theorem d_JS_charAt_0 : hg_D Y_JS_charAt 0 1 1 (.aload_n 0) := ⟨by decide +kernel, rfl⟩
theorem d_JS_charAt_1 : hg_D Y_JS_charAt 1 4 3 (.invokevirtual 492) := ⟨by decide +kernel, rfl⟩
theorem d_JS_charAt_4 : hg_D Y_JS_charAt 4 7 3 (.ifCond .eq 12) := ⟨by decide +kernel, rfl⟩
theorem d_JS_charAt_7 : hg_D Y_JS_charAt 7 8 1 (.aload_n 0) := ⟨by decide +kernel, rfl⟩
theorem d_JS_charAt_8 : hg_D Y_JS_charAt 8 11 3 (.getfield 9) := ⟨by decide +kernel, rfl⟩
theorem d_JS_charAt_11 : hg_D Y_JS_charAt 11 12 1 (.iload_n 1) := ⟨by decide +kernel, rfl⟩
theorem d_JS_charAt_12 : hg_D Y_JS_charAt 12 15 3 (.invokestatic 495) := ⟨by decide +kernel, rfl⟩
theorem d_JS_charAt_15 : hg_D Y_JS_charAt 15 16 1 (.ireturn) := ⟨by decide +kernel, rfl⟩
theorem d_JS_charAt_16 : hg_D Y_JS_charAt 16 17 1 (.aload_n 0) := ⟨by decide +kernel, rfl⟩
theorem d_JS_charAt_17 : hg_D Y_JS_charAt 17 20 3 (.getfield 9) := ⟨by decide +kernel, rfl⟩
theorem d_JS_charAt_20 : hg_D Y_JS_charAt 20 21 1 (.iload_n 1) := ⟨by decide +kernel, rfl⟩
theorem d_JS_charAt_21 : hg_D Y_JS_charAt 21 24 3 (.invokestatic 498) := ⟨by decide +kernel, rfl⟩
theorem d_JS_charAt_24 : hg_D Y_JS_charAt 24 25 1 (.ireturn) := ⟨by decide +kernel, rfl⟩
theorem d_JS_indexOf_0_0 : hg_D Y_JS_indexOf_0 0 1 1 (.aload_n 0) := ⟨by decide +kernel, rfl⟩
theorem d_JS_indexOf_0_1 : hg_D Y_JS_indexOf_0 1 2 1 (.iload_n 1) := ⟨by decide +kernel, rfl⟩
theorem d_JS_indexOf_0_2 : hg_D Y_JS_indexOf_0 2 3 1 (.iconst 0) := ⟨by decide +kernel, rfl⟩
theorem d_JS_indexOf_0_3 : hg_D Y_JS_indexOf_0 3 6 3 (.invokevirtual 633) := ⟨by decide +kernel, rfl⟩
theorem d_JS_indexOf_0_6 : hg_D Y_JS_indexOf_0 6 7 1 (.ireturn) := ⟨by decide +kernel, rfl⟩
theorem d_JS_indexOf_1_0 : hg_D Y_JS_indexOf_1 0 1 1 (.aload_n 0) := ⟨by decide +kernel, rfl⟩
theorem d_JS_indexOf_1_1 : hg_D Y_JS_indexOf_1 1 4 3 (.invokevirtual 492) := ⟨by decide +kernel, rfl⟩
theorem d_JS_indexOf_1_4 : hg_D Y_JS_indexOf_1 4 7 3 (.ifCond .eq 19) := ⟨by decide +kernel, rfl⟩
theorem d_JS_indexOf_1_7 : hg_D Y_JS_indexOf_1 7 8 1 (.aload_n 0) := ⟨by decide +kernel, rfl⟩
theorem d_JS_indexOf_1_8 : hg_D Y_JS_indexOf_1 8 11 3 (.getfield 9) := ⟨by decide +kernel, rfl⟩
theorem d_JS_indexOf_1_11 : hg_D Y_JS_indexOf_1 11 12 1 (.iload_n 1) := ⟨by decide +kernel, rfl⟩
theorem d_JS_indexOf_1_12 : hg_D Y_JS_indexOf_1 12 13 1 (.iload_n 2) := ⟨by decide +kernel, rfl⟩
theorem d_JS_indexOf_1_13 : hg_D Y_JS_indexOf_1 13 14 1 (.aload_n 0) := ⟨by decide +kernel, rfl⟩
theorem d_JS_indexOf_1_14 : hg_D Y_JS_indexOf_1 14 17 3 (.invokevirtual 505) := ⟨by decide +kernel, rfl⟩
theorem d_JS_indexOf_1_17 : hg_D Y_JS_indexOf_1 17 20 3 (.invokestatic 637) := ⟨by decide +kernel, rfl⟩
theorem d_JS_indexOf_1_20 : hg_D Y_JS_indexOf_1 20 23 3 (.goto 16) := ⟨by decide +kernel, rfl⟩
theorem d_JS_indexOf_1_23 : hg_D Y_JS_indexOf_1 23 24 1 (.aload_n 0) := ⟨by decide +kernel, rfl⟩
theorem d_JS_indexOf_1_24 : hg_D Y_JS_indexOf_1 24 27 3 (.getfield 9) := ⟨by decide +kernel, rfl⟩
theorem d_JS_indexOf_1_27 : hg_D Y_JS_indexOf_1 27 28 1 (.iload_n 1) := ⟨by decide +kernel, rfl⟩
theorem d_JS_indexOf_1_28 : hg_D Y_JS_indexOf_1 28 29 1 (.iload_n 2) := ⟨by decide +kernel, rfl⟩
theorem d_JS_indexOf_1_29 : hg_D Y_JS_indexOf_1 29 30 1 (.aload_n 0) := ⟨by decide +kernel, rfl⟩
theorem d_JS_indexOf_1_30 : hg_D Y_JS_indexOf_1 30 33 3 (.invokevirtual 505) := ⟨by decide +kernel, rfl⟩
theorem d_JS_indexOf_1_33 : hg_D Y_JS_indexOf_1 33 36 3 (.invokestatic 640) := ⟨by decide +kernel, rfl⟩
theorem d_JS_indexOf_1_36 : hg_D Y_JS_indexOf_1 36 37 1 (.ireturn) := ⟨by decide +kernel, rfl⟩
theorem d_JS_coder_0 : hg_D Y_JS_coder 0 3 3 (.getstatic 38) := ⟨by decide +kernel, rfl⟩
theorem d_JS_coder_3 : hg_D Y_JS_coder 3 6 3 (.ifCond .eq 10) := ⟨by decide +kernel, rfl⟩
theorem d_JS_coder_6 : hg_D Y_JS_coder 6 7 1 (.aload_n 0) := ⟨by decide +kernel, rfl⟩
theorem d_JS_coder_7 : hg_D Y_JS_coder 7 10 3 (.getfield 15) := ⟨by decide +kernel, rfl⟩
theorem d_JS_coder_10 : hg_D Y_JS_coder 10 13 3 (.goto 4) := ⟨by decide +kernel, rfl⟩
theorem d_JS_coder_13 : hg_D Y_JS_coder 13 14 1 (.iconst 1) := ⟨by decide +kernel, rfl⟩
theorem d_JS_coder_14 : hg_D Y_JS_coder 14 15 1 (.ireturn) := ⟨by decide +kernel, rfl⟩
theorem d_JS_isLatin1_0 : hg_D Y_JS_isLatin1 0 3 3 (.getstatic 38) := ⟨by decide +kernel, rfl⟩
theorem d_JS_isLatin1_3 : hg_D Y_JS_isLatin1 3 6 3 (.ifCond .eq 14) := ⟨by decide +kernel, rfl⟩
theorem d_JS_isLatin1_6 : hg_D Y_JS_isLatin1 6 7 1 (.aload_n 0) := ⟨by decide +kernel, rfl⟩
theorem d_JS_isLatin1_7 : hg_D Y_JS_isLatin1 7 10 3 (.getfield 15) := ⟨by decide +kernel, rfl⟩
theorem d_JS_isLatin1_10 : hg_D Y_JS_isLatin1 10 13 3 (.ifCond .ne 7) := ⟨by decide +kernel, rfl⟩
theorem d_JS_isLatin1_13 : hg_D Y_JS_isLatin1 13 14 1 (.iconst 1) := ⟨by decide +kernel, rfl⟩
theorem d_JS_isLatin1_14 : hg_D Y_JS_isLatin1 14 17 3 (.goto 4) := ⟨by decide +kernel, rfl⟩
theorem d_JS_isLatin1_17 : hg_D Y_JS_isLatin1 17 18 1 (.iconst 0) := ⟨by decide +kernel, rfl⟩
theorem d_JS_isLatin1_18 : hg_D Y_JS_isLatin1 18 19 1 (.ireturn) := ⟨by decide +kernel, rfl⟩
theorem d_JS_checkIndex_0 : hg_D Y_JS_checkIndex 0 1 1 (.iload_n 0) := ⟨by decide +kernel, rfl⟩
theorem d_JS_checkIndex_1 : hg_D Y_JS_checkIndex 1 2 1 (.iload_n 1) := ⟨by decide +kernel, rfl⟩
theorem d_JS_checkIndex_2 : hg_D Y_JS_checkIndex 2 5 3 (.getstatic 1053) := ⟨by decide +kernel, rfl⟩
theorem d_JS_checkIndex_5 : hg_D Y_JS_checkIndex 5 8 3 (.invokestatic 1059) := ⟨by decide +kernel, rfl⟩
theorem d_JS_checkIndex_8 : hg_D Y_JS_checkIndex 8 9 1 (.pop) := ⟨by decide +kernel, rfl⟩
theorem d_JS_checkIndex_9 : hg_D Y_JS_checkIndex 9 10 1 (.return_) := ⟨by decide +kernel, rfl⟩
theorem d_JL_charAt_0 : hg_D Y_JL_charAt 0 1 1 (.iload_n 1) := ⟨by decide +kernel, rfl⟩
theorem d_JL_charAt_1 : hg_D Y_JL_charAt 1 2 1 (.aload_n 0) := ⟨by decide +kernel, rfl⟩
theorem d_JL_charAt_2 : hg_D Y_JL_charAt 2 3 1 (.arraylength) := ⟨by decide +kernel, rfl⟩
theorem d_JL_charAt_3 : hg_D Y_JL_charAt 3 6 3 (.invokestatic 9) := ⟨by decide +kernel, rfl⟩
theorem d_JL_charAt_6 : hg_D Y_JL_charAt 6 7 1 (.aload_n 0) := ⟨by decide +kernel, rfl⟩
theorem d_JL_charAt_7 : hg_D Y_JL_charAt 7 8 1 (.iload_n 1) := ⟨by decide +kernel, rfl⟩
theorem d_JL_charAt_8 : hg_D Y_JL_charAt 8 9 1 (.baload) := ⟨by decide +kernel, rfl⟩
theorem d_JL_charAt_9 : hg_D Y_JL_charAt 9 12 3 (.sipush 255) := ⟨by decide +kernel, rfl⟩
theorem d_JL_charAt_12 : hg_D Y_JL_charAt 12 13 1 (.iand) := ⟨by decide +kernel, rfl⟩
theorem d_JL_charAt_13 : hg_D Y_JL_charAt 13 14 1 (.i2c) := ⟨by decide +kernel, rfl⟩
theorem d_JL_charAt_14 : hg_D Y_JL_charAt 14 15 1 (.ireturn) := ⟨by decide +kernel, rfl⟩
theorem d_JL_canEncode_0 : hg_D Y_JL_canEncode 0 1 1 (.iload_n 0) := ⟨by decide +kernel, rfl⟩
theorem d_JL_canEncode_1 : hg_D Y_JL_canEncode 1 4 3 (.ifCond .lt 14) := ⟨by decide +kernel, rfl⟩
theorem d_JL_canEncode_4 : hg_D Y_JL_canEncode 4 5 1 (.iload_n 0) := ⟨by decide +kernel, rfl⟩
theorem d_JL_canEncode_5 : hg_D Y_JL_canEncode 5 8 3 (.sipush 255) := ⟨by decide +kernel, rfl⟩
theorem d_JL_canEncode_8 : hg_D Y_JL_canEncode 8 11 3 (.if_icmp .gt 7) := ⟨by decide +kernel, rfl⟩
theorem d_JL_canEncode_11 : hg_D Y_JL_canEncode 11 12 1 (.iconst 1) := ⟨by decide +kernel, rfl⟩
theorem d_JL_canEncode_12 : hg_D Y_JL_canEncode 12 15 3 (.goto 4) := ⟨by decide +kernel, rfl⟩
theorem d_JL_canEncode_15 : hg_D Y_JL_canEncode 15 16 1 (.iconst 0) := ⟨by decide +kernel, rfl⟩
theorem d_JL_canEncode_16 : hg_D Y_JL_canEncode 16 17 1 (.ireturn) := ⟨by decide +kernel, rfl⟩
theorem d_JL_indexOf_0 : hg_D Y_JL_indexOf 0 1 1 (.iload_n 1) := ⟨by decide +kernel, rfl⟩
theorem d_JL_indexOf_1 : hg_D Y_JL_indexOf 1 4 3 (.invokestatic 88) := ⟨by decide +kernel, rfl⟩
theorem d_JL_indexOf_4 : hg_D Y_JL_indexOf 4 7 3 (.ifCond .ne 5) := ⟨by decide +kernel, rfl⟩
theorem d_JL_indexOf_7 : hg_D Y_JL_indexOf 7 8 1 (.iconst (-1)) := ⟨by decide +kernel, rfl⟩
theorem d_JL_indexOf_8 : hg_D Y_JL_indexOf 8 9 1 (.ireturn) := ⟨by decide +kernel, rfl⟩
theorem d_JL_indexOf_9 : hg_D Y_JL_indexOf 9 10 1 (.iload_n 2) := ⟨by decide +kernel, rfl⟩
theorem d_JL_indexOf_10 : hg_D Y_JL_indexOf 10 11 1 (.iconst 0) := ⟨by decide +kernel, rfl⟩
theorem d_JL_indexOf_11 : hg_D Y_JL_indexOf 11 14 3 (.invokestatic 92) := ⟨by decide +kernel, rfl⟩
theorem d_JL_indexOf_14 : hg_D Y_JL_indexOf 14 15 1 (.istore_n 2) := ⟨by decide +kernel, rfl⟩
theorem d_JL_indexOf_15 : hg_D Y_JL_indexOf 15 16 1 (.iload_n 3) := ⟨by decide +kernel, rfl⟩
theorem d_JL_indexOf_16 : hg_D Y_JL_indexOf 16 17 1 (.aload_n 0) := ⟨by decide +kernel, rfl⟩
theorem d_JL_indexOf_17 : hg_D Y_JL_indexOf 17 18 1 (.arraylength) := ⟨by decide +kernel, rfl⟩
theorem d_JL_indexOf_18 : hg_D Y_JL_indexOf 18 21 3 (.invokestatic 38) := ⟨by decide +kernel, rfl⟩
theorem d_JL_indexOf_21 : hg_D Y_JL_indexOf 21 22 1 (.istore_n 3) := ⟨by decide +kernel, rfl⟩
theorem d_JL_indexOf_22 : hg_D Y_JL_indexOf 22 23 1 (.iload_n 2) := ⟨by decide +kernel, rfl⟩
theorem d_JL_indexOf_23 : hg_D Y_JL_indexOf 23 24 1 (.iload_n 3) := ⟨by decide +kernel, rfl⟩
theorem d_JL_indexOf_24 : hg_D Y_JL_indexOf 24 27 3 (.if_icmp .lt 5) := ⟨by decide +kernel, rfl⟩
theorem d_JL_indexOf_27 : hg_D Y_JL_indexOf 27 28 1 (.iconst (-1)) := ⟨by decide +kernel, rfl⟩
theorem d_JL_indexOf_28 : hg_D Y_JL_indexOf 28 29 1 (.ireturn) := ⟨by decide +kernel, rfl⟩
theorem d_JL_indexOf_29 : hg_D Y_JL_indexOf 29 30 1 (.aload_n 0) := ⟨by decide +kernel, rfl⟩
theorem d_JL_indexOf_30 : hg_D Y_JL_indexOf 30 31 1 (.iload_n 1) := ⟨by decide +kernel, rfl⟩
theorem d_JL_indexOf_31 : hg_D Y_JL_indexOf 31 32 1 (.iload_n 2) := ⟨by decide +kernel, rfl⟩
theorem d_JL_indexOf_32 : hg_D Y_JL_indexOf 32 33 1 (.iload_n 3) := ⟨by decide +kernel, rfl⟩
theorem d_JL_indexOf_33 : hg_D Y_JL_indexOf 33 36 3 (.invokestatic 95) := ⟨by decide +kernel, rfl⟩
theorem d_JL_indexOf_36 : hg_D Y_JL_indexOf 36 37 1 (.ireturn) := ⟨by decide +kernel, rfl⟩
theorem d_JL_indexOfChar_0 : hg_D Y_JL_indexOfChar 0 1 1 (.iload_n 1) := ⟨by decide +kernel, rfl⟩
theorem d_JL_indexOfChar_1 : hg_D Y_JL_indexOfChar 1 2 1 (.i2b) := ⟨by decide +kernel, rfl⟩
theorem d_JL_indexOfChar_2 : hg_D Y_JL_indexOfChar 2 4 2 (.istore 4) := ⟨by decide +kernel, rfl⟩
theorem d_JL_indexOfChar_4 : hg_D Y_JL_indexOfChar 4 5 1 (.iload_n 2) := ⟨by decide +kernel, rfl⟩
theorem d_JL_indexOfChar_5 : hg_D Y_JL_indexOfChar 5 7 2 (.istore 5) := ⟨by decide +kernel, rfl⟩
theorem d_JL_indexOfChar_7 : hg_D Y_JL_indexOfChar 7 9 2 (.iload 5) := ⟨by decide +kernel, rfl⟩
theorem d_JL_indexOfChar_9 : hg_D Y_JL_indexOfChar 9 10 1 (.iload_n 3) := ⟨by decide +kernel, rfl⟩
theorem d_JL_indexOfChar_10 : hg_D Y_JL_indexOfChar 10 13 3 (.if_icmp .ge 21) := ⟨by decide +kernel, rfl⟩
theorem d_JL_indexOfChar_13 : hg_D Y_JL_indexOfChar 13 14 1 (.aload_n 0) := ⟨by decide +kernel, rfl⟩
theorem d_JL_indexOfChar_14 : hg_D Y_JL_indexOfChar 14 16 2 (.iload 5) := ⟨by decide +kernel, rfl⟩
theorem d_JL_indexOfChar_16 : hg_D Y_JL_indexOfChar 16 17 1 (.baload) := ⟨by decide +kernel, rfl⟩
theorem d_JL_indexOfChar_17 : hg_D Y_JL_indexOfChar 17 19 2 (.iload 4) := ⟨by decide +kernel, rfl⟩
theorem d_JL_indexOfChar_19 : hg_D Y_JL_indexOfChar 19 22 3 (.if_icmp .ne 6) := ⟨by decide +kernel, rfl⟩
theorem d_JL_indexOfChar_22 : hg_D Y_JL_indexOfChar 22 24 2 (.iload 5) := ⟨by decide +kernel, rfl⟩
theorem d_JL_indexOfChar_24 : hg_D Y_JL_indexOfChar 24 25 1 (.ireturn) := ⟨by decide +kernel, rfl⟩
theorem d_JL_indexOfChar_25 : hg_D Y_JL_indexOfChar 25 28 3 (.iinc 5 1) := ⟨by decide +kernel, rfl⟩
theorem d_JL_indexOfChar_28 : hg_D Y_JL_indexOfChar 28 31 3 (.goto (-21)) := ⟨by decide +kernel, rfl⟩
theorem d_JL_indexOfChar_31 : hg_D Y_JL_indexOfChar 31 32 1 (.iconst (-1)) := ⟨by decide +kernel, rfl⟩
theorem d_JL_indexOfChar_32 : hg_D Y_JL_indexOfChar 32 33 1 (.ireturn) := ⟨by decide +kernel, rfl⟩
theorem d_JP_checkIndex_0 : hg_D Y_JP_checkIndex 0 1 1 (.iload_n 0) := ⟨by decide +kernel, rfl⟩
theorem d_JP_checkIndex_1 : hg_D Y_JP_checkIndex 1 4 3 (.ifCond .lt 8) := ⟨by decide +kernel, rfl⟩
theorem d_JP_checkIndex_4 : hg_D Y_JP_checkIndex 4 5 1 (.iload_n 0) := ⟨by decide +kernel, rfl⟩
theorem d_JP_checkIndex_5 : hg_D Y_JP_checkIndex 5 6 1 (.iload_n 1) := ⟨by decide +kernel, rfl⟩
theorem d_JP_checkIndex_6 : hg_D Y_JP_checkIndex 6 9 3 (.if_icmp .lt 10) := ⟨by decide +kernel, rfl⟩
theorem d_JP_checkIndex_9 : hg_D Y_JP_checkIndex 9 10 1 (.aload_n 2) := ⟨by decide +kernel, rfl⟩
theorem d_JP_checkIndex_10 : hg_D Y_JP_checkIndex 10 11 1 (.iload_n 0) := ⟨by decide +kernel, rfl⟩
theorem d_JP_checkIndex_11 : hg_D Y_JP_checkIndex 11 12 1 (.iload_n 1) := ⟨by decide +kernel, rfl⟩
theorem d_JP_checkIndex_12 : hg_D Y_JP_checkIndex 12 15 3 (.invokestatic 95) := ⟨by decide +kernel, rfl⟩
theorem d_JP_checkIndex_15 : hg_D Y_JP_checkIndex 15 16 1 (.athrow) := ⟨by decide +kernel, rfl⟩
theorem d_JP_checkIndex_16 : hg_D Y_JP_checkIndex 16 17 1 (.iload_n 0) := ⟨by decide +kernel, rfl⟩
theorem d_JP_checkIndex_17 : hg_D Y_JP_checkIndex 17 18 1 (.ireturn) := ⟨by decide +kernel, rfl⟩
end
section
theorem i_vc : Claimed_1_1 ∧ Claimed_1_2 := sorry
end
