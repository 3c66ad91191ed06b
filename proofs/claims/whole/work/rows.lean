section
-- ===== PART A: goes FIRST, ahead of the names: the tables' words, and 'selects' of the private methods out of them =====
/-- a private method of a class that the tables say can be made, by its rows of tables_1 -/
def lw_okq (q : MethodName × Nat) : Prop := (q.1.cls ≠ "java/lang/invoke/MethodHandle" ∧ q.1.cls ≠ "java/lang/invoke/VarHandle") ∧ Cond.instantiable q.1.cls q.2 ∈ tables_1 ∧ Cond.privateMethod q.1 ∈ tables_1 ∧ Cond.instanceMethod q.1 ∈ tables_1
theorem lw_p0 : lw_okq (⟨"CallRounds", "isSheet", "(I)Z"⟩, 13) := ⟨⟨by decide +kernel, by decide +kernel⟩, List.mem_of_getElem? (i := 19) (by decide +kernel), List.mem_of_getElem? (i := 149) (by decide +kernel), List.mem_of_getElem? (i := 150) (by decide +kernel)⟩
theorem lw_p1 : lw_okq (⟨"CallRounds", "isLane", "(I)Z"⟩, 13) := ⟨⟨by decide +kernel, by decide +kernel⟩, List.mem_of_getElem? (i := 19) (by decide +kernel), List.mem_of_getElem? (i := 153) (by decide +kernel), List.mem_of_getElem? (i := 154) (by decide +kernel)⟩
theorem lw_p2 : lw_okq (⟨"CallRounds", "faulted", "(I)I"⟩, 13) := ⟨⟨by decide +kernel, by decide +kernel⟩, List.mem_of_getElem? (i := 19) (by decide +kernel), List.mem_of_getElem? (i := 157) (by decide +kernel), List.mem_of_getElem? (i := 158) (by decide +kernel)⟩
theorem lw_p3 : lw_okq (⟨"CallRounds$NetText", "firstBroken", "(LCallRounds$Sheet;II)I"⟩, 2) := ⟨⟨by decide +kernel, by decide +kernel⟩, List.mem_of_getElem? (i := 165) (by decide +kernel), List.mem_of_getElem? (i := 184) (by decide +kernel), List.mem_of_getElem? (i := 185) (by decide +kernel)⟩
theorem lw_p4 : lw_okq (⟨"CallRounds$NetText", "beginItem", "()V"⟩, 2) := ⟨⟨by decide +kernel, by decide +kernel⟩, List.mem_of_getElem? (i := 165) (by decide +kernel), List.mem_of_getElem? (i := 193) (by decide +kernel), List.mem_of_getElem? (i := 194) (by decide +kernel)⟩
theorem lw_p5 : lw_okq (⟨"CallRounds$NetText", "takesNumber", "(I)Z"⟩, 2) := ⟨⟨by decide +kernel, by decide +kernel⟩, List.mem_of_getElem? (i := 165) (by decide +kernel), List.mem_of_getElem? (i := 200) (by decide +kernel), List.mem_of_getElem? (i := 201) (by decide +kernel)⟩
theorem lw_p6 : lw_okq (⟨"CallRounds$NetText", "firstStranger", "(LCallRounds$Sheet;II)I"⟩, 2) := ⟨⟨by decide +kernel, by decide +kernel⟩, List.mem_of_getElem? (i := 165) (by decide +kernel), List.mem_of_getElem? (i := 207) (by decide +kernel), List.mem_of_getElem? (i := 208) (by decide +kernel)⟩
theorem lw_p7 : lw_okq (⟨"CallRounds", "begin", "(J)V"⟩, 13) := ⟨⟨by decide +kernel, by decide +kernel⟩, List.mem_of_getElem? (i := 19) (by decide +kernel), List.mem_of_getElem? (i := 215) (by decide +kernel), List.mem_of_getElem? (i := 216) (by decide +kernel)⟩
theorem lw_p8 : lw_okq (⟨"CallRounds", "moveTo", "(J)V"⟩, 13) := ⟨⟨by decide +kernel, by decide +kernel⟩, List.mem_of_getElem? (i := 19) (by decide +kernel), List.mem_of_getElem? (i := 219) (by decide +kernel), List.mem_of_getElem? (i := 220) (by decide +kernel)⟩
theorem lw_p9 : lw_okq (⟨"CallRounds", "isPerson", "(I)Z"⟩, 13) := ⟨⟨by decide +kernel, by decide +kernel⟩, List.mem_of_getElem? (i := 19) (by decide +kernel), List.mem_of_getElem? (i := 231) (by decide +kernel), List.mem_of_getElem? (i := 232) (by decide +kernel)⟩
theorem lw_p10 : lw_okq (⟨"CallRounds", "newCall", "(III)LCallRounds$Call;"⟩, 13) := ⟨⟨by decide +kernel, by decide +kernel⟩, List.mem_of_getElem? (i := 19) (by decide +kernel), List.mem_of_getElem? (i := 265) (by decide +kernel), List.mem_of_getElem? (i := 266) (by decide +kernel)⟩
theorem lw_p11 : lw_okq (⟨"CallRounds", "callAt", "(I)LCallRounds$Call;"⟩, 13) := ⟨⟨by decide +kernel, by decide +kernel⟩, List.mem_of_getElem? (i := 19) (by decide +kernel), List.mem_of_getElem? (i := 334) (by decide +kernel), List.mem_of_getElem? (i := 335) (by decide +kernel)⟩
theorem lw_p12 : lw_okq (⟨"CallRounds", "isRule", "(I)Z"⟩, 13) := ⟨⟨by decide +kernel, by decide +kernel⟩, List.mem_of_getElem? (i := 19) (by decide +kernel), List.mem_of_getElem? (i := 365) (by decide +kernel), List.mem_of_getElem? (i := 366) (by decide +kernel)⟩
theorem lw_p13 : lw_okq (⟨"CallRounds", "isEither", "(I)Z"⟩, 13) := ⟨⟨by decide +kernel, by decide +kernel⟩, List.mem_of_getElem? (i := 19) (by decide +kernel), List.mem_of_getElem? (i := 378) (by decide +kernel), List.mem_of_getElem? (i := 379) (by decide +kernel)⟩
theorem lw_p14 : lw_okq (⟨"CallRounds", "noPersons", "()Z"⟩, 13) := ⟨⟨by decide +kernel, by decide +kernel⟩, List.mem_of_getElem? (i := 19) (by decide +kernel), List.mem_of_getElem? (i := 382) (by decide +kernel), List.mem_of_getElem? (i := 383) (by decide +kernel)⟩
theorem lw_p15 : lw_okq (⟨"CallRounds$Runs", "count", "(JII)I"⟩, 6) := ⟨⟨by decide +kernel, by decide +kernel⟩, List.mem_of_getElem? (i := 42) (by decide +kernel), List.mem_of_getElem? (i := 391) (by decide +kernel), List.mem_of_getElem? (i := 392) (by decide +kernel)⟩
def lw_privs_1 : List (MethodName × Nat) := [(⟨"CallRounds", "isSheet", "(I)Z"⟩, 13), (⟨"CallRounds", "isLane", "(I)Z"⟩, 13), (⟨"CallRounds", "faulted", "(I)I"⟩, 13), (⟨"CallRounds$NetText", "firstBroken", "(LCallRounds$Sheet;II)I"⟩, 2), (⟨"CallRounds$NetText", "beginItem", "()V"⟩, 2), (⟨"CallRounds$NetText", "takesNumber", "(I)Z"⟩, 2), (⟨"CallRounds$NetText", "firstStranger", "(LCallRounds$Sheet;II)I"⟩, 2), (⟨"CallRounds", "begin", "(J)V"⟩, 13), (⟨"CallRounds", "moveTo", "(J)V"⟩, 13), (⟨"CallRounds", "isPerson", "(I)Z"⟩, 13), (⟨"CallRounds", "newCall", "(III)LCallRounds$Call;"⟩, 13), (⟨"CallRounds", "callAt", "(I)LCallRounds$Call;"⟩, 13), (⟨"CallRounds", "isRule", "(I)Z"⟩, 13), (⟨"CallRounds", "isEither", "(I)Z"⟩, 13), (⟨"CallRounds", "noPersons", "()Z"⟩, 13), (⟨"CallRounds$Runs", "count", "(JII)I"⟩, 6)]
theorem lw_r1 : ∀ q ∈ lw_privs_1, lw_okq q := List.forall_mem_cons.mpr ⟨lw_p0, List.forall_mem_cons.mpr ⟨lw_p1, List.forall_mem_cons.mpr ⟨lw_p2, List.forall_mem_cons.mpr ⟨lw_p3, List.forall_mem_cons.mpr ⟨lw_p4, List.forall_mem_cons.mpr ⟨lw_p5, List.forall_mem_cons.mpr ⟨lw_p6, List.forall_mem_cons.mpr ⟨lw_p7, List.forall_mem_cons.mpr ⟨lw_p8, List.forall_mem_cons.mpr ⟨lw_p9, List.forall_mem_cons.mpr ⟨lw_p10, List.forall_mem_cons.mpr ⟨lw_p11, List.forall_mem_cons.mpr ⟨lw_p12, List.forall_mem_cons.mpr ⟨lw_p13, List.forall_mem_cons.mpr ⟨lw_p14, List.forall_mem_cons.mpr ⟨lw_p15, fun _ h => absurd h List.not_mem_nil⟩⟩⟩⟩⟩⟩⟩⟩⟩⟩⟩⟩⟩⟩⟩⟩
theorem lw_p16 : lw_okq (⟨"CallRounds$Table", "slotFor", "(J)I"⟩, 2) := ⟨⟨by decide +kernel, by decide +kernel⟩, List.mem_of_getElem? (i := 48) (by decide +kernel), List.mem_of_getElem? (i := 411) (by decide +kernel), List.mem_of_getElem? (i := 412) (by decide +kernel)⟩
theorem lw_p17 : lw_okq (⟨"CallRounds$Runs", "keep", "(JJJII)I"⟩, 6) := ⟨⟨by decide +kernel, by decide +kernel⟩, List.mem_of_getElem? (i := 42) (by decide +kernel), List.mem_of_getElem? (i := 426) (by decide +kernel), List.mem_of_getElem? (i := 427) (by decide +kernel)⟩
theorem lw_p18 : lw_okq (⟨"CallRounds$Alike", "find", "(IJ[LCallRounds$Call;I)V"⟩, 5) := ⟨⟨by decide +kernel, by decide +kernel⟩, List.mem_of_getElem? (i := 82) (by decide +kernel), List.mem_of_getElem? (i := 500) (by decide +kernel), List.mem_of_getElem? (i := 501) (by decide +kernel)⟩
theorem lw_p19 : lw_okq (⟨"CallRounds$Alike", "follow", "(IJI)V"⟩, 5) := ⟨⟨by decide +kernel, by decide +kernel⟩, List.mem_of_getElem? (i := 82) (by decide +kernel), List.mem_of_getElem? (i := 512) (by decide +kernel), List.mem_of_getElem? (i := 513) (by decide +kernel)⟩
theorem lw_p20 : lw_okq (⟨"CallRounds", "surelyHad", "(II)I"⟩, 13) := ⟨⟨by decide +kernel, by decide +kernel⟩, List.mem_of_getElem? (i := 19) (by decide +kernel), List.mem_of_getElem? (i := 524) (by decide +kernel), List.mem_of_getElem? (i := 525) (by decide +kernel)⟩
theorem lw_p21 : lw_okq (⟨"CallRounds", "isPlaceOfNumber", "(I)Z"⟩, 13) := ⟨⟨by decide +kernel, by decide +kernel⟩, List.mem_of_getElem? (i := 19) (by decide +kernel), List.mem_of_getElem? (i := 564) (by decide +kernel), List.mem_of_getElem? (i := 565) (by decide +kernel)⟩
theorem lw_p22 : lw_okq (⟨"CallRounds", "findMending", "(I)I"⟩, 13) := ⟨⟨by decide +kernel, by decide +kernel⟩, List.mem_of_getElem? (i := 19) (by decide +kernel), List.mem_of_getElem? (i := 587) (by decide +kernel), List.mem_of_getElem? (i := 588) (by decide +kernel)⟩
theorem lw_p23 : lw_okq (⟨"CallRounds", "countNets", "(III)V"⟩, 13) := ⟨⟨by decide +kernel, by decide +kernel⟩, List.mem_of_getElem? (i := 19) (by decide +kernel), List.mem_of_getElem? (i := 596) (by decide +kernel), List.mem_of_getElem? (i := 597) (by decide +kernel)⟩
theorem lw_p24 : lw_okq (⟨"CallRounds$Runs", "include", "(JIII)Z"⟩, 6) := ⟨⟨by decide +kernel, by decide +kernel⟩, List.mem_of_getElem? (i := 42) (by decide +kernel), List.mem_of_getElem? (i := 611) (by decide +kernel), List.mem_of_getElem? (i := 612) (by decide +kernel)⟩
theorem lw_p25 : lw_okq (⟨"CallRounds$Sheet", "cut", "(I)I"⟩, 2) := ⟨⟨by decide +kernel, by decide +kernel⟩, List.mem_of_getElem? (i := 618) (by decide +kernel), List.mem_of_getElem? (i := 645) (by decide +kernel), List.mem_of_getElem? (i := 646) (by decide +kernel)⟩
theorem lw_p26 : lw_okq (⟨"CallRoundsModel", "fails", "(I)I"⟩, 30) := ⟨⟨by decide +kernel, by decide +kernel⟩, List.mem_of_getElem? (i := 733) (by decide +kernel), List.mem_of_getElem? (i := 844) (by decide +kernel), List.mem_of_getElem? (i := 845) (by decide +kernel)⟩
theorem lw_p27 : lw_okq (⟨"CallRoundsModel", "readAll", "(II)I"⟩, 30) := ⟨⟨by decide +kernel, by decide +kernel⟩, List.mem_of_getElem? (i := 733) (by decide +kernel), List.mem_of_getElem? (i := 848) (by decide +kernel), List.mem_of_getElem? (i := 849) (by decide +kernel)⟩
theorem lw_p28 : lw_okq (⟨"CallRoundsModel", "isPerson", "(I)Z"⟩, 30) := ⟨⟨by decide +kernel, by decide +kernel⟩, List.mem_of_getElem? (i := 733) (by decide +kernel), List.mem_of_getElem? (i := 859) (by decide +kernel), List.mem_of_getElem? (i := 860) (by decide +kernel)⟩
theorem lw_p29 : lw_okq (⟨"CallRoundsModel", "stateAt", "(I)I"⟩, 30) := ⟨⟨by decide +kernel, by decide +kernel⟩, List.mem_of_getElem? (i := 733) (by decide +kernel), List.mem_of_getElem? (i := 863) (by decide +kernel), List.mem_of_getElem? (i := 864) (by decide +kernel)⟩
theorem lw_p30 : lw_okq (⟨"CallRoundsModel", "startOf", "(I)I"⟩, 30) := ⟨⟨by decide +kernel, by decide +kernel⟩, List.mem_of_getElem? (i := 733) (by decide +kernel), List.mem_of_getElem? (i := 867) (by decide +kernel), List.mem_of_getElem? (i := 868) (by decide +kernel)⟩
theorem lw_p31 : lw_okq (⟨"CallRoundsModel", "tokensNow", "(I)I"⟩, 30) := ⟨⟨by decide +kernel, by decide +kernel⟩, List.mem_of_getElem? (i := 733) (by decide +kernel), List.mem_of_getElem? (i := 881) (by decide +kernel), List.mem_of_getElem? (i := 882) (by decide +kernel)⟩
def lw_privs_2 : List (MethodName × Nat) := [(⟨"CallRounds$Table", "slotFor", "(J)I"⟩, 2), (⟨"CallRounds$Runs", "keep", "(JJJII)I"⟩, 6), (⟨"CallRounds$Alike", "find", "(IJ[LCallRounds$Call;I)V"⟩, 5), (⟨"CallRounds$Alike", "follow", "(IJI)V"⟩, 5), (⟨"CallRounds", "surelyHad", "(II)I"⟩, 13), (⟨"CallRounds", "isPlaceOfNumber", "(I)Z"⟩, 13), (⟨"CallRounds", "findMending", "(I)I"⟩, 13), (⟨"CallRounds", "countNets", "(III)V"⟩, 13), (⟨"CallRounds$Runs", "include", "(JIII)Z"⟩, 6), (⟨"CallRounds$Sheet", "cut", "(I)I"⟩, 2), (⟨"CallRoundsModel", "fails", "(I)I"⟩, 30), (⟨"CallRoundsModel", "readAll", "(II)I"⟩, 30), (⟨"CallRoundsModel", "isPerson", "(I)Z"⟩, 30), (⟨"CallRoundsModel", "stateAt", "(I)I"⟩, 30), (⟨"CallRoundsModel", "startOf", "(I)I"⟩, 30), (⟨"CallRoundsModel", "tokensNow", "(I)I"⟩, 30)]
theorem lw_r2 : ∀ q ∈ lw_privs_2, lw_okq q := List.forall_mem_cons.mpr ⟨lw_p16, List.forall_mem_cons.mpr ⟨lw_p17, List.forall_mem_cons.mpr ⟨lw_p18, List.forall_mem_cons.mpr ⟨lw_p19, List.forall_mem_cons.mpr ⟨lw_p20, List.forall_mem_cons.mpr ⟨lw_p21, List.forall_mem_cons.mpr ⟨lw_p22, List.forall_mem_cons.mpr ⟨lw_p23, List.forall_mem_cons.mpr ⟨lw_p24, List.forall_mem_cons.mpr ⟨lw_p25, List.forall_mem_cons.mpr ⟨lw_p26, List.forall_mem_cons.mpr ⟨lw_p27, List.forall_mem_cons.mpr ⟨lw_p28, List.forall_mem_cons.mpr ⟨lw_p29, List.forall_mem_cons.mpr ⟨lw_p30, List.forall_mem_cons.mpr ⟨lw_p31, fun _ h => absurd h List.not_mem_nil⟩⟩⟩⟩⟩⟩⟩⟩⟩⟩⟩⟩⟩⟩⟩⟩
theorem lw_p32 : lw_okq (⟨"CallRoundsModel", "isCall", "(I)Z"⟩, 30) := ⟨⟨by decide +kernel, by decide +kernel⟩, List.mem_of_getElem? (i := 733) (by decide +kernel), List.mem_of_getElem? (i := 896) (by decide +kernel), List.mem_of_getElem? (i := 897) (by decide +kernel)⟩
theorem lw_p33 : lw_okq (⟨"CallRoundsModel", "kindOf", "(I)I"⟩, 30) := ⟨⟨by decide +kernel, by decide +kernel⟩, List.mem_of_getElem? (i := 733) (by decide +kernel), List.mem_of_getElem? (i := 900) (by decide +kernel), List.mem_of_getElem? (i := 901) (by decide +kernel)⟩
theorem lw_p34 : lw_okq (⟨"CallRoundsModel", "learnt", "(II)I"⟩, 30) := ⟨⟨by decide +kernel, by decide +kernel⟩, List.mem_of_getElem? (i := 733) (by decide +kernel), List.mem_of_getElem? (i := 904) (by decide +kernel), List.mem_of_getElem? (i := 905) (by decide +kernel)⟩
theorem lw_p35 : lw_okq (⟨"CallRoundsModel", "layNow", "(I)I"⟩, 30) := ⟨⟨by decide +kernel, by decide +kernel⟩, List.mem_of_getElem? (i := 733) (by decide +kernel), List.mem_of_getElem? (i := 930) (by decide +kernel), List.mem_of_getElem? (i := 931) (by decide +kernel)⟩
theorem lw_p36 : lw_okq (⟨"CallRoundsModel", "lookAt", "([III)V"⟩, 30) := ⟨⟨by decide +kernel, by decide +kernel⟩, List.mem_of_getElem? (i := 733) (by decide +kernel), List.mem_of_getElem? (i := 934) (by decide +kernel), List.mem_of_getElem? (i := 935) (by decide +kernel)⟩
theorem lw_p37 : lw_okq (⟨"CallRoundsModel", "lay", "(II)I"⟩, 30) := ⟨⟨by decide +kernel, by decide +kernel⟩, List.mem_of_getElem? (i := 733) (by decide +kernel), List.mem_of_getElem? (i := 938) (by decide +kernel), List.mem_of_getElem? (i := 939) (by decide +kernel)⟩
theorem lw_p38 : lw_okq (⟨"CallRoundsModel", "open", "(III)V"⟩, 30) := ⟨⟨by decide +kernel, by decide +kernel⟩, List.mem_of_getElem? (i := 733) (by decide +kernel), List.mem_of_getElem? (i := 946) (by decide +kernel), List.mem_of_getElem? (i := 947) (by decide +kernel)⟩
theorem lw_p39 : lw_okq (⟨"CallRoundsModel", "close", "(II)V"⟩, 30) := ⟨⟨by decide +kernel, by decide +kernel⟩, List.mem_of_getElem? (i := 733) (by decide +kernel), List.mem_of_getElem? (i := 950) (by decide +kernel), List.mem_of_getElem? (i := 951) (by decide +kernel)⟩
theorem lw_p40 : lw_okq (⟨"CallRoundsModel", "areExperts", "(II)Z"⟩, 30) := ⟨⟨by decide +kernel, by decide +kernel⟩, List.mem_of_getElem? (i := 733) (by decide +kernel), List.mem_of_getElem? (i := 954) (by decide +kernel), List.mem_of_getElem? (i := 955) (by decide +kernel)⟩
theorem lw_p41 : lw_okq (⟨"CallRoundsModel", "add", "(II)V"⟩, 30) := ⟨⟨by decide +kernel, by decide +kernel⟩, List.mem_of_getElem? (i := 733) (by decide +kernel), List.mem_of_getElem? (i := 958) (by decide +kernel), List.mem_of_getElem? (i := 959) (by decide +kernel)⟩
theorem lw_p42 : lw_okq (⟨"CallRoundsModel", "verdictAt", "(I)I"⟩, 30) := ⟨⟨by decide +kernel, by decide +kernel⟩, List.mem_of_getElem? (i := 733) (by decide +kernel), List.mem_of_getElem? (i := 966) (by decide +kernel), List.mem_of_getElem? (i := 967) (by decide +kernel)⟩
theorem lw_p43 : lw_okq (⟨"CallRoundsModel", "layAlike", "(I)V"⟩, 30) := ⟨⟨by decide +kernel, by decide +kernel⟩, List.mem_of_getElem? (i := 733) (by decide +kernel), List.mem_of_getElem? (i := 986) (by decide +kernel), List.mem_of_getElem? (i := 987) (by decide +kernel)⟩
theorem lw_p44 : lw_okq (⟨"CallRoundsModel", "layRow", "(I)I"⟩, 30) := ⟨⟨by decide +kernel, by decide +kernel⟩, List.mem_of_getElem? (i := 733) (by decide +kernel), List.mem_of_getElem? (i := 990) (by decide +kernel), List.mem_of_getElem? (i := 991) (by decide +kernel)⟩
theorem lw_p45 : lw_okq (⟨"CallRoundsModel", "seesAlike", "(I)Z"⟩, 30) := ⟨⟨by decide +kernel, by decide +kernel⟩, List.mem_of_getElem? (i := 733) (by decide +kernel), List.mem_of_getElem? (i := 994) (by decide +kernel), List.mem_of_getElem? (i := 995) (by decide +kernel)⟩
theorem lw_p46 : lw_okq (⟨"CallRoundsModel", "layOther", "(II)V"⟩, 30) := ⟨⟨by decide +kernel, by decide +kernel⟩, List.mem_of_getElem? (i := 733) (by decide +kernel), List.mem_of_getElem? (i := 1021) (by decide +kernel), List.mem_of_getElem? (i := 1022) (by decide +kernel)⟩
theorem lw_p47 : lw_okq (⟨"CallRoundsModel", "verdictFrom", "([III)I"⟩, 30) := ⟨⟨by decide +kernel, by decide +kernel⟩, List.mem_of_getElem? (i := 733) (by decide +kernel), List.mem_of_getElem? (i := 1033) (by decide +kernel), List.mem_of_getElem? (i := 1034) (by decide +kernel)⟩
def lw_privs_3 : List (MethodName × Nat) := [(⟨"CallRoundsModel", "isCall", "(I)Z"⟩, 30), (⟨"CallRoundsModel", "kindOf", "(I)I"⟩, 30), (⟨"CallRoundsModel", "learnt", "(II)I"⟩, 30), (⟨"CallRoundsModel", "layNow", "(I)I"⟩, 30), (⟨"CallRoundsModel", "lookAt", "([III)V"⟩, 30), (⟨"CallRoundsModel", "lay", "(II)I"⟩, 30), (⟨"CallRoundsModel", "open", "(III)V"⟩, 30), (⟨"CallRoundsModel", "close", "(II)V"⟩, 30), (⟨"CallRoundsModel", "areExperts", "(II)Z"⟩, 30), (⟨"CallRoundsModel", "add", "(II)V"⟩, 30), (⟨"CallRoundsModel", "verdictAt", "(I)I"⟩, 30), (⟨"CallRoundsModel", "layAlike", "(I)V"⟩, 30), (⟨"CallRoundsModel", "layRow", "(I)I"⟩, 30), (⟨"CallRoundsModel", "seesAlike", "(I)Z"⟩, 30), (⟨"CallRoundsModel", "layOther", "(II)V"⟩, 30), (⟨"CallRoundsModel", "verdictFrom", "([III)I"⟩, 30)]
theorem lw_r3 : ∀ q ∈ lw_privs_3, lw_okq q := List.forall_mem_cons.mpr ⟨lw_p32, List.forall_mem_cons.mpr ⟨lw_p33, List.forall_mem_cons.mpr ⟨lw_p34, List.forall_mem_cons.mpr ⟨lw_p35, List.forall_mem_cons.mpr ⟨lw_p36, List.forall_mem_cons.mpr ⟨lw_p37, List.forall_mem_cons.mpr ⟨lw_p38, List.forall_mem_cons.mpr ⟨lw_p39, List.forall_mem_cons.mpr ⟨lw_p40, List.forall_mem_cons.mpr ⟨lw_p41, List.forall_mem_cons.mpr ⟨lw_p42, List.forall_mem_cons.mpr ⟨lw_p43, List.forall_mem_cons.mpr ⟨lw_p44, List.forall_mem_cons.mpr ⟨lw_p45, List.forall_mem_cons.mpr ⟨lw_p46, List.forall_mem_cons.mpr ⟨lw_p47, fun _ h => absurd h List.not_mem_nil⟩⟩⟩⟩⟩⟩⟩⟩⟩⟩⟩⟩⟩⟩⟩⟩
theorem lw_p48 : lw_okq (⟨"CallRoundsModel", "layNet", "(II)V"⟩, 30) := ⟨⟨by decide +kernel, by decide +kernel⟩, List.mem_of_getElem? (i := 733) (by decide +kernel), List.mem_of_getElem? (i := 1041) (by decide +kernel), List.mem_of_getElem? (i := 1042) (by decide +kernel)⟩
theorem lw_p49 : lw_okq (⟨"CallRoundsModel", "lost", "(I)J"⟩, 30) := ⟨⟨by decide +kernel, by decide +kernel⟩, List.mem_of_getElem? (i := 733) (by decide +kernel), List.mem_of_getElem? (i := 1065) (by decide +kernel), List.mem_of_getElem? (i := 1066) (by decide +kernel)⟩
theorem lw_p50 : lw_okq (⟨"CallRoundsModel", "begins", "(I)V"⟩, 30) := ⟨⟨by decide +kernel, by decide +kernel⟩, List.mem_of_getElem? (i := 733) (by decide +kernel), List.mem_of_getElem? (i := 1077) (by decide +kernel), List.mem_of_getElem? (i := 1078) (by decide +kernel)⟩
def lw_privs_4 : List (MethodName × Nat) := [(⟨"CallRoundsModel", "layNet", "(II)V"⟩, 30), (⟨"CallRoundsModel", "lost", "(I)J"⟩, 30), (⟨"CallRoundsModel", "begins", "(I)V"⟩, 30)]
theorem lw_r4 : ∀ q ∈ lw_privs_4, lw_okq q := List.forall_mem_cons.mpr ⟨lw_p48, List.forall_mem_cons.mpr ⟨lw_p49, List.forall_mem_cons.mpr ⟨lw_p50, fun _ h => absurd h List.not_mem_nil⟩⟩⟩
def lw_privs : List (MethodName × Nat) := lw_privs_1 ++ (lw_privs_2 ++ (lw_privs_3 ++ (lw_privs_4)))
def lw_tbl : List Cond := k2_sels lw_privs ++ tables_1
theorem lw_privs_ok : ∀ q ∈ lw_privs, lw_okq q := by
  show ∀ q ∈ lw_privs_1 ++ (lw_privs_2 ++ (lw_privs_3 ++ (lw_privs_4))), lw_okq q
  exact List.forall_mem_append.mpr ⟨lw_r1, List.forall_mem_append.mpr ⟨lw_r2, List.forall_mem_append.mpr ⟨lw_r3, lw_r4⟩⟩⟩
end
section
def RX0 : String := "CallRounds$Alike"
def TX0 : u_T := fun k => match k with
  | 0 => ("CallRounds$Alike", "rows", "[I", true)
  | 1 => ("CallRounds$Alike", "sureSecrets", "[I", true)
  | 2 => ("CallRounds$Alike", "found", "I", false)
  | 3 => ("CallRounds$Alike", "sights", "[I", true)
  | _ => ("CallRounds$Alike", "sightCount", "I", false)
def tyX0 : Nat → FieldType := fun k => match k with
  | 0 => .array .int
  | 1 => .array .int
  | 2 => .int
  | 3 => .array .int
  | _ => .int
theorem nmX0 : ∀ a, a < 5 → ∀ b, b < 5 → a ≠ b → (TX0 a).2.1 ≠ (TX0 b).2.1 := by decide +kernel
theorem tyX0_ok : ∀ k, k < 5 → parseFieldDescriptor (TX0 k).2.2.1 = some (tyX0 k) := by decide +kernel
abbrev cX0_init : ByteArray := prog_2_method_1_code
def yX0_init : MethodName := ⟨RX0, "<init>", "()V"⟩
abbrev cX0_forget : ByteArray := prog_2_method_2_code
def yX0_forget : MethodName := ⟨RX0, "forget", "()V"⟩
abbrev cX0_rowsFor : ByteArray := prog_2_method_3_code
def yX0_rowsFor : MethodName := ⟨RX0, "rowsFor", "(IJ[LCallRounds$Call;I)I"⟩
abbrev cX0_sureSecretsFor : ByteArray := prog_2_method_4_code
def yX0_sureSecretsFor : MethodName := ⟨RX0, "sureSecretsFor", "(IJ[LCallRounds$Call;I)I"⟩
abbrev cX0_find : ByteArray := prog_2_method_5_code
def yX0_find : MethodName := ⟨RX0, "find", "(IJ[LCallRounds$Call;I)V"⟩
abbrev cX0_follow : ByteArray := prog_2_method_6_code
def yX0_follow : MethodName := ⟨RX0, "follow", "(IJI)V"⟩
abbrev cX0_sight : ByteArray := prog_2_method_7_code
def yX0_sight : MethodName := ⟨RX0, "sight", "(IIIJ)I"⟩
def RX1 : String := "CallRounds$Call"
def TX1 : u_T := fun k => match k with
  | 0 => ("CallRounds$Call", "number", "I", true)
  | 1 => ("CallRounds$Call", "ringer", "I", true)
  | 2 => ("CallRounds$Call", "rung", "I", true)
  | 3 => ("CallRounds$Call", "before", "J", true)
  | _ => ("CallRounds$Call", "after", "J", true)
def tyX1 : Nat → FieldType := fun k => match k with
  | 0 => .int
  | 1 => .int
  | 2 => .int
  | 3 => .long
  | _ => .long
theorem nmX1 : ∀ a, a < 5 → ∀ b, b < 5 → a ≠ b → (TX1 a).2.1 ≠ (TX1 b).2.1 := by decide +kernel
theorem tyX1_ok : ∀ k, k < 5 → parseFieldDescriptor (TX1 k).2.2.1 = some (tyX1 k) := by decide +kernel
abbrev cX1_init : ByteArray := prog_3_method_1_code
def yX1_init : MethodName := ⟨RX1, "<init>", "(IIIJJ)V"⟩
abbrev cX1_kind : ByteArray := prog_3_method_2_code
def yX1_kind : MethodName := ⟨RX1, "kind", "()I"⟩
abbrev cX1_learntBy : ByteArray := prog_3_method_3_code
def yX1_learntBy : MethodName := ⟨RX1, "learntBy", "(I)I"⟩
abbrev cX1_telling : ByteArray := prog_3_method_4_code
def yX1_telling : MethodName := ⟨RX1, "telling", "(LCallRounds$Trace;)I"⟩
abbrev cX1_plainTelling : ByteArray := prog_3_method_5_code
def yX1_plainTelling : MethodName := ⟨RX1, "plainTelling", "(LCallRounds$Trace;)I"⟩
abbrev cX1_logged : ByteArray := prog_3_method_6_code
def yX1_logged : MethodName := ⟨RX1, "logged", "(LCallRounds$Trace;)I"⟩
def RX2 : String := "CallRounds$Net"
def TX2 : u_T := fun k => match k with
  | _ => ("", "", "", false)
def tyX2 : Nat → FieldType := fun k => match k with
  | _ => .int
theorem tyX2_ok : ∀ k, k < 0 → parseFieldDescriptor (TX2 k).2.2.1 = some (tyX2 k) := by decide +kernel
abbrev cX2_chosen : ByteArray := prog_4_method_2_code
def yX2_chosen : MethodName := ⟨RX2, "chosen", "(II)I"⟩
abbrev cX2_isJoined : ByteArray := prog_4_method_3_code
def yX2_isJoined : MethodName := ⟨RX2, "isJoined", "(II)Z"⟩
abbrev cX2_bridges : ByteArray := prog_4_method_4_code
def yX2_bridges : MethodName := ⟨RX2, "bridges", "(II)I"⟩
abbrev cX2_isSun : ByteArray := prog_4_method_5_code
def yX2_isSun : MethodName := ⟨RX2, "isSun", "(II)Z"⟩
abbrev cX2_reach : ByteArray := prog_4_method_6_code
def yX2_reach : MethodName := ⟨RX2, "reach", "(III)I"⟩
def RX3 : String := "CallRounds$NetText"
def TX3 : u_T := fun k => match k with
  | 0 => ("CallRounds$NetText", "persons", "I", false)
  | _ => ("CallRounds$NetText", "numbers", "I", false)
def tyX3 : Nat → FieldType := fun k => match k with
  | 0 => .int
  | _ => .int
theorem nmX3 : ∀ a, a < 2 → ∀ b, b < 2 → a ≠ b → (TX3 a).2.1 ≠ (TX3 b).2.1 := by decide +kernel
theorem tyX3_ok : ∀ k, k < 2 → parseFieldDescriptor (TX3 k).2.2.1 = some (tyX3 k) := by decide +kernel
abbrev cX3_init : ByteArray := prog_5_method_1_code
def yX3_init : MethodName := ⟨RX3, "<init>", "()V"⟩
abbrev cX3_read : ByteArray := prog_5_method_2_code
def yX3_read : MethodName := ⟨RX3, "read", "(LCallRounds$Sheet;II)I"⟩
abbrev cX3_firstBroken : ByteArray := prog_5_method_3_code
def yX3_firstBroken : MethodName := ⟨RX3, "firstBroken", "(LCallRounds$Sheet;II)I"⟩
abbrev cX3_beginItem : ByteArray := prog_5_method_4_code
def yX3_beginItem : MethodName := ⟨RX3, "beginItem", "()V"⟩
abbrev cX3_takesNumber : ByteArray := prog_5_method_5_code
def yX3_takesNumber : MethodName := ⟨RX3, "takesNumber", "(I)Z"⟩
abbrev cX3_firstStranger : ByteArray := prog_5_method_6_code
def yX3_firstStranger : MethodName := ⟨RX3, "firstStranger", "(LCallRounds$Sheet;II)I"⟩
abbrev cX3_isDigit : ByteArray := prog_5_method_7_code
def yX3_isDigit : MethodName := ⟨RX3, "isDigit", "(I)Z"⟩
def RX4 : String := "CallRounds$News"
def TX4 : u_T := fun k => match k with
  | 0 => ("CallRounds$Call", "number", "I", true)
  | 1 => ("CallRounds$Call", "ringer", "I", true)
  | 2 => ("CallRounds$Call", "rung", "I", true)
  | 3 => ("CallRounds$Call", "before", "J", true)
  | _ => ("CallRounds$Call", "after", "J", true)
def tyX4 : Nat → FieldType := fun k => match k with
  | 0 => .int
  | 1 => .int
  | 2 => .int
  | 3 => .long
  | _ => .long
theorem nmX4 : ∀ a, a < 5 → ∀ b, b < 5 → a ≠ b → (TX4 a).2.1 ≠ (TX4 b).2.1 := by decide +kernel
theorem tyX4_ok : ∀ k, k < 5 → parseFieldDescriptor (TX4 k).2.2.1 = some (tyX4 k) := by decide +kernel
abbrev cX4_init : ByteArray := prog_6_method_1_code
def yX4_init : MethodName := ⟨RX4, "<init>", "(IIIJJ)V"⟩
abbrev cX4_kind : ByteArray := prog_6_method_2_code
def yX4_kind : MethodName := ⟨RX4, "kind", "()I"⟩
abbrev cX4_telling : ByteArray := prog_6_method_3_code
def yX4_telling : MethodName := ⟨RX4, "telling", "(LCallRounds$Trace;)I"⟩
def RX5 : String := "CallRounds$Position"
def TX5 : u_T := fun k => match k with
  | _ => ("", "", "", false)
def tyX5 : Nat → FieldType := fun k => match k with
  | _ => .int
theorem tyX5_ok : ∀ k, k < 0 → parseFieldDescriptor (TX5 k).2.2.1 = some (tyX5 k) := by decide +kernel
abbrev cX5_first : ByteArray := prog_7_method_2_code
def yX5_first : MethodName := ⟨RX5, "first", "(II)J"⟩
abbrev cX5_persons : ByteArray := prog_7_method_3_code
def yX5_persons : MethodName := ⟨RX5, "persons", "(J)I"⟩
abbrev cX5_allSecrets : ByteArray := prog_7_method_4_code
def yX5_allSecrets : MethodName := ⟨RX5, "allSecrets", "(J)I"⟩
abbrev cX5_allNumbers : ByteArray := prog_7_method_5_code
def yX5_allNumbers : MethodName := ⟨RX5, "allNumbers", "(J)I"⟩
abbrev cX5_partOf : ByteArray := prog_7_method_6_code
def yX5_partOf : MethodName := ⟨RX5, "partOf", "(II)I"⟩
abbrev cX5_secretsOf : ByteArray := prog_7_method_7_code
def yX5_secretsOf : MethodName := ⟨RX5, "secretsOf", "(JI)I"⟩
abbrev cX5_numbersOf : ByteArray := prog_7_method_8_code
def yX5_numbersOf : MethodName := ⟨RX5, "numbersOf", "(JI)I"⟩
abbrev cX5_hasToken : ByteArray := prog_7_method_9_code
def yX5_hasToken : MethodName := ⟨RX5, "hasToken", "(JII)Z"⟩
abbrev cX5_everySecret : ByteArray := prog_7_method_10_code
def yX5_everySecret : MethodName := ⟨RX5, "everySecret", "(J)I"⟩
abbrev cX5_isExpert : ByteArray := prog_7_method_11_code
def yX5_isExpert : MethodName := ⟨RX5, "isExpert", "(JI)Z"⟩
abbrev cX5_experts : ByteArray := prog_7_method_12_code
def yX5_experts : MethodName := ⟨RX5, "experts", "(J)I"⟩
abbrev cX5_allAreExperts : ByteArray := prog_7_method_13_code
def yX5_allAreExperts : MethodName := ⟨RX5, "allAreExperts", "(J)Z"⟩
abbrev cX5_whomMay : ByteArray := prog_7_method_14_code
def yX5_whomMay : MethodName := ⟨RX5, "whomMay", "(JII)I"⟩
abbrev cX5_ring : ByteArray := prog_7_method_15_code
def yX5_ring : MethodName := ⟨RX5, "ring", "(JII)J"⟩
abbrev cX5_keyFor : ByteArray := prog_7_method_16_code
def yX5_keyFor : MethodName := ⟨RX5, "keyFor", "(JII)J"⟩
def RX6 : String := "CallRounds$Runs"
def TX6 : u_T := fun k => match k with
  | 0 => ("CallRounds$Runs", "counted", "LCallRounds$Table;", true)
  | 1 => ("CallRounds$Runs", "all", "[J", true)
  | 2 => ("CallRounds$Runs", "good", "[J", true)
  | 3 => ("CallRounds$Runs", "fewest", "[B", true)
  | 4 => ("CallRounds$Runs", "most", "[B", true)
  | _ => ("CallRounds$Runs", "included", "LCallRounds$Table;", true)
def tyX6 : Nat → FieldType := fun k => match k with
  | 0 => .object "CallRounds$Table"
  | 1 => .array .long
  | 2 => .array .long
  | 3 => .array .byte
  | 4 => .array .byte
  | _ => .object "CallRounds$Table"
theorem nmX6 : ∀ a, a < 6 → ∀ b, b < 6 → a ≠ b → (TX6 a).2.1 ≠ (TX6 b).2.1 := by decide +kernel
theorem tyX6_ok : ∀ k, k < 6 → parseFieldDescriptor (TX6 k).2.2.1 = some (tyX6 k) := by decide +kernel
abbrev cX6_init : ByteArray := prog_8_method_1_code
def yX6_init : MethodName := ⟨RX6, "<init>", "()V"⟩
abbrev cX6_all : ByteArray := prog_8_method_2_code
def yX6_all : MethodName := ⟨RX6, "all", "(JI)J"⟩
abbrev cX6_good : ByteArray := prog_8_method_3_code
def yX6_good : MethodName := ⟨RX6, "good", "(JI)J"⟩
abbrev cX6_fewest : ByteArray := prog_8_method_4_code
def yX6_fewest : MethodName := ⟨RX6, "fewest", "(JI)I"⟩
abbrev cX6_most : ByteArray := prog_8_method_5_code
def yX6_most : MethodName := ⟨RX6, "most", "(JI)I"⟩
abbrev cX6_judge : ByteArray := prog_8_method_6_code
def yX6_judge : MethodName := ⟨RX6, "judge", "(JI)I"⟩
abbrev cX6_bestPair : ByteArray := prog_8_method_7_code
def yX6_bestPair : MethodName := ⟨RX6, "bestPair", "(JI)I"⟩
abbrev cX6_areWithin : ByteArray := prog_8_method_8_code
def yX6_areWithin : MethodName := ⟨RX6, "areWithin", "(JII)Z"⟩
abbrev cX6_count : ByteArray := prog_8_method_9_code
def yX6_count : MethodName := ⟨RX6, "count", "(JII)I"⟩
abbrev cX6_keep : ByteArray := prog_8_method_10_code
def yX6_keep : MethodName := ⟨RX6, "keep", "(JJJII)I"⟩
abbrev cX6_include : ByteArray := prog_8_method_11_code
def yX6_include : MethodName := ⟨RX6, "include", "(JIII)Z"⟩
def RX7 : String := "CallRounds$Sheet"
def TX7 : u_T := fun k => match k with
  | 0 => ("CallRounds$Sheet", "lane", "I", true)
  | _ => ("CallRounds$Sheet", "cells", "[I", true)
def tyX7 : Nat → FieldType := fun k => match k with
  | 0 => .int
  | _ => .array .int
theorem nmX7 : ∀ a, a < 2 → ∀ b, b < 2 → a ≠ b → (TX7 a).2.1 ≠ (TX7 b).2.1 := by decide +kernel
theorem tyX7_ok : ∀ k, k < 2 → parseFieldDescriptor (TX7 k).2.2.1 = some (tyX7 k) := by decide +kernel
abbrev cX7_init : ByteArray := prog_9_method_1_code
def yX7_init : MethodName := ⟨RX7, "<init>", "(II)V"⟩
abbrev cX7_has : ByteArray := prog_9_method_2_code
def yX7_has : MethodName := ⟨RX7, "has", "(II)Z"⟩
abbrev cX7_at : ByteArray := prog_9_method_3_code
def yX7_at : MethodName := ⟨RX7, "at", "(I)I"⟩
abbrev cX7_set : ByteArray := prog_9_method_4_code
def yX7_set : MethodName := ⟨RX7, "set", "(II)V"⟩
abbrev cX7_cut : ByteArray := prog_9_method_5_code
def yX7_cut : MethodName := ⟨RX7, "cut", "(I)I"⟩
def RX8 : String := "CallRounds$Table"
def TX8 : u_T := fun k => match k with
  | 0 => ("CallRounds$Table", "keys", "[J", true)
  | _ => ("CallRounds$Table", "used", "I", false)
def tyX8 : Nat → FieldType := fun k => match k with
  | 0 => .array .long
  | _ => .int
theorem nmX8 : ∀ a, a < 2 → ∀ b, b < 2 → a ≠ b → (TX8 a).2.1 ≠ (TX8 b).2.1 := by decide +kernel
theorem tyX8_ok : ∀ k, k < 2 → parseFieldDescriptor (TX8 k).2.2.1 = some (tyX8 k) := by decide +kernel
abbrev cX8_init : ByteArray := prog_10_method_1_code
def yX8_init : MethodName := ⟨RX8, "<init>", "()V"⟩
abbrev cX8_makeRoom : ByteArray := prog_10_method_2_code
def yX8_makeRoom : MethodName := ⟨RX8, "makeRoom", "()V"⟩
abbrev cX8_find : ByteArray := prog_10_method_3_code
def yX8_find : MethodName := ⟨RX8, "find", "(J)I"⟩
abbrev cX8_take : ByteArray := prog_10_method_4_code
def yX8_take : MethodName := ⟨RX8, "take", "(J)I"⟩
abbrev cX8_slotFor : ByteArray := prog_10_method_5_code
def yX8_slotFor : MethodName := ⟨RX8, "slotFor", "(J)I"⟩
def RX9 : String := "CallRounds$Trace"
def TX9 : u_T := fun k => match k with
  | _ => ("CallRounds$Trace", "value", "I", false)
def tyX9 : Nat → FieldType := fun k => match k with
  | _ => .int
theorem nmX9 : ∀ a, a < 1 → ∀ b, b < 1 → a ≠ b → (TX9 a).2.1 ≠ (TX9 b).2.1 := by decide +kernel
theorem tyX9_ok : ∀ k, k < 1 → parseFieldDescriptor (TX9 k).2.2.1 = some (tyX9 k) := by decide +kernel
abbrev cX9_init : ByteArray := prog_11_method_1_code
def yX9_init : MethodName := ⟨RX9, "<init>", "()V"⟩
abbrev cX9_leave : ByteArray := prog_11_method_2_code
def yX9_leave : MethodName := ⟨RX9, "leave", "(I)V"⟩
def RX10 : String := "CallRounds$Whole"
def TX10 : u_T := fun k => match k with
  | 0 => ("CallRounds$Call", "number", "I", true)
  | 1 => ("CallRounds$Call", "ringer", "I", true)
  | 2 => ("CallRounds$Call", "rung", "I", true)
  | 3 => ("CallRounds$Call", "before", "J", true)
  | _ => ("CallRounds$Call", "after", "J", true)
def tyX10 : Nat → FieldType := fun k => match k with
  | 0 => .int
  | 1 => .int
  | 2 => .int
  | 3 => .long
  | _ => .long
theorem nmX10 : ∀ a, a < 5 → ∀ b, b < 5 → a ≠ b → (TX10 a).2.1 ≠ (TX10 b).2.1 := by decide +kernel
theorem tyX10_ok : ∀ k, k < 5 → parseFieldDescriptor (TX10 k).2.2.1 = some (tyX10 k) := by decide +kernel
abbrev cX10_init : ByteArray := prog_12_method_1_code
def yX10_init : MethodName := ⟨RX10, "<init>", "(IIIJJ)V"⟩
abbrev cX10_kind : ByteArray := prog_12_method_2_code
def yX10_kind : MethodName := ⟨RX10, "kind", "()I"⟩
abbrev cX10_telling : ByteArray := prog_12_method_3_code
def yX10_telling : MethodName := ⟨RX10, "telling", "(LCallRounds$Trace;)I"⟩
abbrev cX10_logged : ByteArray := prog_12_method_4_code
def yX10_logged : MethodName := ⟨RX10, "logged", "(LCallRounds$Trace;)I"⟩
def RX11 : String := "CallRounds"
def TX11 : u_T := fun k => match k with
  | 0 => ("CallRounds", "sheets", "[LCallRounds$Sheet;", true)
  | 1 => ("CallRounds", "made", "[LCallRounds$Call;", true)
  | 2 => ("CallRounds", "madeCount", "I", false)
  | 3 => ("CallRounds", "start", "J", false)
  | 4 => ("CallRounds", "now", "J", false)
  | 5 => ("CallRounds", "fault", "I", false)
  | 6 => ("CallRounds", "trace", "LCallRounds$Trace;", true)
  | 7 => ("CallRounds", "runs", "LCallRounds$Runs;", true)
  | 8 => ("CallRounds", "alike", "LCallRounds$Alike;", true)
  | 9 => ("CallRounds", "mending", "[I", true)
  | 10 => ("CallRounds", "mendingFound", "I", false)
  | 11 => ("CallRounds", "netCounts", "[I", true)
  | _ => ("CallRounds", "netsCounted", "I", false)
def tyX11 : Nat → FieldType := fun k => match k with
  | 0 => .array (.object "CallRounds$Sheet")
  | 1 => .array (.object "CallRounds$Call")
  | 2 => .int
  | 3 => .long
  | 4 => .long
  | 5 => .int
  | 6 => .object "CallRounds$Trace"
  | 7 => .object "CallRounds$Runs"
  | 8 => .object "CallRounds$Alike"
  | 9 => .array .int
  | 10 => .int
  | 11 => .array .int
  | _ => .int
theorem nmX11 : ∀ a, a < 13 → ∀ b, b < 13 → a ≠ b → (TX11 a).2.1 ≠ (TX11 b).2.1 := by decide +kernel
theorem tyX11_ok : ∀ k, k < 13 → parseFieldDescriptor (TX11 k).2.2.1 = some (tyX11 k) := by decide +kernel
abbrev cX11_init : ByteArray := prog_1_method_1_code
def yX11_init : MethodName := ⟨RX11, "<init>", "()V"⟩
abbrev cX11_net : ByteArray := prog_1_method_2_code
def yX11_net : MethodName := ⟨RX11, "net", "(IIII)I"⟩
abbrev cX11_ofPerson : ByteArray := prog_1_method_3_code
def yX11_ofPerson : MethodName := ⟨RX11, "ofPerson", "(II)I"⟩
abbrev cX11_call : ByteArray := prog_1_method_4_code
def yX11_call : MethodName := ⟨RX11, "call", "(II)I"⟩
abbrev cX11_ofCall : ByteArray := prog_1_method_5_code
def yX11_ofCall : MethodName := ⟨RX11, "ofCall", "(II)I"⟩
abbrev cX11_back : ByteArray := prog_1_method_6_code
def yX11_back : MethodName := ⟨RX11, "back", "()I"⟩
abbrev cX11_may : ByteArray := prog_1_method_7_code
def yX11_may : MethodName := ⟨RX11, "may", "(II)I"⟩
abbrev cX11_runs : ByteArray := prog_1_method_8_code
def yX11_runs : MethodName := ⟨RX11, "runs", "(II)J"⟩
abbrev cX11_verdict : ByteArray := prog_1_method_9_code
def yX11_verdict : MethodName := ⟨RX11, "verdict", "(I)I"⟩
abbrev cX11_calls : ByteArray := prog_1_method_10_code
def yX11_calls : MethodName := ⟨RX11, "calls", "(II)I"⟩
abbrev cX11_keeps : ByteArray := prog_1_method_11_code
def yX11_keeps : MethodName := ⟨RX11, "keeps", "(III)I"⟩
abbrev cX11_best : ByteArray := prog_1_method_12_code
def yX11_best : MethodName := ⟨RX11, "best", "(II)I"⟩
abbrev cX11_alike : ByteArray := prog_1_method_13_code
def yX11_alike : MethodName := ⟨RX11, "alike", "(I)I"⟩
abbrev cX11_sure : ByteArray := prog_1_method_14_code
def yX11_sure : MethodName := ⟨RX11, "sure", "(III)I"⟩
abbrev cX11_known : ByteArray := prog_1_method_15_code
def yX11_known : MethodName := ⟨RX11, "known", "(II)I"⟩
abbrev cX11_end : ByteArray := prog_1_method_16_code
def yX11_end : MethodName := ⟨RX11, "end", "(I)I"⟩
abbrev cX11_joined : ByteArray := prog_1_method_17_code
def yX11_joined : MethodName := ⟨RX11, "joined", "()I"⟩
abbrev cX11_bridge : ByteArray := prog_1_method_18_code
def yX11_bridge : MethodName := ⟨RX11, "bridge", "(I)I"⟩
abbrev cX11_sun : ByteArray := prog_1_method_19_code
def yX11_sun : MethodName := ⟨RX11, "sun", "()I"⟩
abbrev cX11_mend : ByteArray := prog_1_method_20_code
def yX11_mend : MethodName := ⟨RX11, "mend", "(II)I"⟩
abbrev cX11_nets : ByteArray := prog_1_method_21_code
def yX11_nets : MethodName := ⟨RX11, "nets", "(III)I"⟩
abbrev cX11_within : ByteArray := prog_1_method_22_code
def yX11_within : MethodName := ⟨RX11, "within", "(II)I"⟩
abbrev cX11_sheet : ByteArray := prog_1_method_23_code
def yX11_sheet : MethodName := ⟨RX11, "sheet", "(III)I"⟩
abbrev cX11_lose : ByteArray := prog_1_method_24_code
def yX11_lose : MethodName := ⟨RX11, "lose", "(I)I"⟩
abbrev cX11_put : ByteArray := prog_1_method_25_code
def yX11_put : MethodName := ⟨RX11, "put", "(III)I"⟩
abbrev cX11_cell : ByteArray := prog_1_method_26_code
def yX11_cell : MethodName := ⟨RX11, "cell", "(III)J"⟩
abbrev cX11_copy : ByteArray := prog_1_method_27_code
def yX11_copy : MethodName := ⟨RX11, "copy", "(IIIII)I"⟩
abbrev cX11_tell : ByteArray := prog_1_method_28_code
def yX11_tell : MethodName := ⟨RX11, "tell", "(I)I"⟩
abbrev cX11_log : ByteArray := prog_1_method_29_code
def yX11_log : MethodName := ⟨RX11, "log", "(I)I"⟩
abbrev cX11_as : ByteArray := prog_1_method_30_code
def yX11_as : MethodName := ⟨RX11, "as", "(II)I"⟩
abbrev cX11_trace : ByteArray := prog_1_method_31_code
def yX11_trace : MethodName := ⟨RX11, "trace", "()I"⟩
abbrev cX11_fault : ByteArray := prog_1_method_32_code
def yX11_fault : MethodName := ⟨RX11, "fault", "()I"⟩
abbrev cX11_many : ByteArray := prog_1_method_33_code
def yX11_many : MethodName := ⟨RX11, "many", "(I)I"⟩
abbrev cX11_isSheet : ByteArray := prog_1_method_34_code
def yX11_isSheet : MethodName := ⟨RX11, "isSheet", "(I)Z"⟩
abbrev cX11_isLane : ByteArray := prog_1_method_35_code
def yX11_isLane : MethodName := ⟨RX11, "isLane", "(I)Z"⟩
abbrev cX11_isRule : ByteArray := prog_1_method_36_code
def yX11_isRule : MethodName := ⟨RX11, "isRule", "(I)Z"⟩
abbrev cX11_isPerson : ByteArray := prog_1_method_37_code
def yX11_isPerson : MethodName := ⟨RX11, "isPerson", "(I)Z"⟩
abbrev cX11_isEither : ByteArray := prog_1_method_38_code
def yX11_isEither : MethodName := ⟨RX11, "isEither", "(I)Z"⟩
abbrev cX11_isPlaceOfNumber : ByteArray := prog_1_method_39_code
def yX11_isPlaceOfNumber : MethodName := ⟨RX11, "isPlaceOfNumber", "(I)Z"⟩
abbrev cX11_noPersons : ByteArray := prog_1_method_40_code
def yX11_noPersons : MethodName := ⟨RX11, "noPersons", "()Z"⟩
abbrev cX11_callAt : ByteArray := prog_1_method_41_code
def yX11_callAt : MethodName := ⟨RX11, "callAt", "(I)LCallRounds$Call;"⟩
abbrev cX11_faulted : ByteArray := prog_1_method_42_code
def yX11_faulted : MethodName := ⟨RX11, "faulted", "(I)I"⟩
abbrev cX11_begin : ByteArray := prog_1_method_43_code
def yX11_begin : MethodName := ⟨RX11, "begin", "(J)V"⟩
abbrev cX11_moveTo : ByteArray := prog_1_method_44_code
def yX11_moveTo : MethodName := ⟨RX11, "moveTo", "(J)V"⟩
abbrev cX11_newCall : ByteArray := prog_1_method_45_code
def yX11_newCall : MethodName := ⟨RX11, "newCall", "(III)LCallRounds$Call;"⟩
abbrev cX11_surelyHad : ByteArray := prog_1_method_46_code
def yX11_surelyHad : MethodName := ⟨RX11, "surelyHad", "(II)I"⟩
abbrev cX11_findMending : ByteArray := prog_1_method_47_code
def yX11_findMending : MethodName := ⟨RX11, "findMending", "(I)I"⟩
abbrev cX11_countNets : ByteArray := prog_1_method_48_code
def yX11_countNets : MethodName := ⟨RX11, "countNets", "(III)V"⟩
abbrev cX11_truth : ByteArray := prog_1_method_49_code
def yX11_truth : MethodName := ⟨RX11, "truth", "(Z)I"⟩
abbrev cX11_contains : ByteArray := prog_1_method_50_code
def yX11_contains : MethodName := ⟨RX11, "contains", "(II)Z"⟩
abbrev cX11_pairOf : ByteArray := prog_1_method_51_code
def yX11_pairOf : MethodName := ⟨RX11, "pairOf", "(II)I"⟩
abbrev cX11_ringerOf : ByteArray := prog_1_method_52_code
def yX11_ringerOf : MethodName := ⟨RX11, "ringerOf", "(I)I"⟩
abbrev cX11_rungOf : ByteArray := prog_1_method_53_code
def yX11_rungOf : MethodName := ⟨RX11, "rungOf", "(I)I"⟩
abbrev cX11_countOrPick : ByteArray := prog_1_method_54_code
def yX11_countOrPick : MethodName := ⟨RX11, "countOrPick", "(II)I"⟩
def RX12 : String := "CallRoundsModel"
def TX12 : u_T := fun k => match k with
  | 0 => ("CallRoundsModel", "fault", "I", false)
  | 1 => ("CallRoundsModel", "trace", "I", false)
  | 2 => ("CallRoundsModel", "lanes", "[I", true)
  | 3 => ("CallRoundsModel", "sheetLong", "[I", true)
  | 4 => ("CallRoundsModel", "cells", "[I", true)
  | 5 => ("CallRoundsModel", "persons", "I", false)
  | 6 => ("CallRoundsModel", "net", "[I", true)
  | 7 => ("CallRoundsModel", "readNet", "[I", true)
  | 8 => ("CallRoundsModel", "read", "I", false)
  | 9 => ("CallRoundsModel", "calls", "I", false)
  | 10 => ("CallRoundsModel", "callP", "[I", true)
  | 11 => ("CallRoundsModel", "callQ", "[I", true)
  | 12 => ("CallRoundsModel", "seen", "[I", true)
  | 13 => ("CallRoundsModel", "runs", "[J", true)
  | 14 => ("CallRoundsModel", "good", "[J", true)
  | 15 => ("CallRoundsModel", "fewest", "[I", true)
  | 16 => ("CallRoundsModel", "most", "[I", true)
  | 17 => ("CallRoundsModel", "turn", "I", false)
  | 18 => ("CallRoundsModel", "downState", "[I", true)
  | 19 => ("CallRoundsModel", "downTokens", "[I", true)
  | 20 => ("CallRoundsModel", "downNext", "[I", true)
  | 21 => ("CallRoundsModel", "lookNet", "[I", false)
  | 22 => ("CallRoundsModel", "lookMany", "I", false)
  | 23 => ("CallRoundsModel", "lookRule", "I", false)
  | 24 => ("CallRoundsModel", "rowP", "[I", true)
  | 25 => ("CallRoundsModel", "rowQ", "[I", true)
  | 26 => ("CallRoundsModel", "alikeMany", "I", false)
  | 27 => ("CallRoundsModel", "alikeState", "I", false)
  | 28 => ("CallRoundsModel", "other", "[I", true)
  | _ => ("CallRoundsModel", "queue", "[I", true)
def tyX12 : Nat → FieldType := fun k => match k with
  | 0 => .int
  | 1 => .int
  | 2 => .array .int
  | 3 => .array .int
  | 4 => .array .int
  | 5 => .int
  | 6 => .array .int
  | 7 => .array .int
  | 8 => .int
  | 9 => .int
  | 10 => .array .int
  | 11 => .array .int
  | 12 => .array .int
  | 13 => .array .long
  | 14 => .array .long
  | 15 => .array .int
  | 16 => .array .int
  | 17 => .int
  | 18 => .array .int
  | 19 => .array .int
  | 20 => .array .int
  | 21 => .array .int
  | 22 => .int
  | 23 => .int
  | 24 => .array .int
  | 25 => .array .int
  | 26 => .int
  | 27 => .int
  | 28 => .array .int
  | _ => .array .int
theorem nmX12 : ∀ a, a < 30 → ∀ b, b < 30 → a ≠ b → (TX12 a).2.1 ≠ (TX12 b).2.1 := by decide +kernel
theorem tyX12_ok : ∀ k, k < 30 → parseFieldDescriptor (TX12 k).2.2.1 = some (tyX12 k) := by decide +kernel
abbrev cX12_init : ByteArray := prog_14_method_1_code
def yX12_init : MethodName := ⟨RX12, "<init>", "()V"⟩
abbrev cX12_fails : ByteArray := prog_14_method_3_code
def yX12_fails : MethodName := ⟨RX12, "fails", "(I)I"⟩
abbrev cX12_lost : ByteArray := prog_14_method_4_code
def yX12_lost : MethodName := ⟨RX12, "lost", "(I)J"⟩
abbrev cX12_isIn : ByteArray := prog_14_method_5_code
def yX12_isIn : MethodName := ⟨RX12, "isIn", "(III)Z"⟩
abbrev cX12_has : ByteArray := prog_14_method_6_code
def yX12_has : MethodName := ⟨RX12, "has", "(II)Z"⟩
abbrev cX12_bitsOf : ByteArray := prog_14_method_7_code
def yX12_bitsOf : MethodName := ⟨RX12, "bitsOf", "(I)I"⟩
abbrev cX12_isSheet : ByteArray := prog_14_method_8_code
def yX12_isSheet : MethodName := ⟨RX12, "isSheet", "(I)Z"⟩
abbrev cX12_isLane : ByteArray := prog_14_method_9_code
def yX12_isLane : MethodName := ⟨RX12, "isLane", "(I)Z"⟩
abbrev cX12_isPerson : ByteArray := prog_14_method_10_code
def yX12_isPerson : MethodName := ⟨RX12, "isPerson", "(I)Z"⟩
abbrev cX12_isRule : ByteArray := prog_14_method_11_code
def yX12_isRule : MethodName := ⟨RX12, "isRule", "(I)Z"⟩
abbrev cX12_net : ByteArray := prog_14_method_12_code
def yX12_net : MethodName := ⟨RX12, "net", "(IIII)I"⟩
abbrev cX12_readAll : ByteArray := prog_14_method_13_code
def yX12_readAll : MethodName := ⟨RX12, "readAll", "(II)I"⟩
abbrev cX12_of : ByteArray := prog_14_method_14_code
def yX12_of : MethodName := ⟨RX12, "of", "(II)I"⟩
abbrev cX12_numbersOf : ByteArray := prog_14_method_15_code
def yX12_numbersOf : MethodName := ⟨RX12, "numbersOf", "([III)I"⟩
abbrev cX12_afterCall : ByteArray := prog_14_method_16_code
def yX12_afterCall : MethodName := ⟨RX12, "afterCall", "(III)I"⟩
abbrev cX12_startOf : ByteArray := prog_14_method_17_code
def yX12_startOf : MethodName := ⟨RX12, "startOf", "(I)I"⟩
abbrev cX12_areExperts : ByteArray := prog_14_method_18_code
def yX12_areExperts : MethodName := ⟨RX12, "areExperts", "(II)Z"⟩
abbrev cX12_stateAt : ByteArray := prog_14_method_19_code
def yX12_stateAt : MethodName := ⟨RX12, "stateAt", "(I)I"⟩
abbrev cX12_tokensAfter : ByteArray := prog_14_method_20_code
def yX12_tokensAfter : MethodName := ⟨RX12, "tokensAfter", "(IIII)I"⟩
abbrev cX12_tokensNow : ByteArray := prog_14_method_21_code
def yX12_tokensNow : MethodName := ⟨RX12, "tokensNow", "(I)I"⟩
abbrev cX12_ofPerson : ByteArray := prog_14_method_22_code
def yX12_ofPerson : MethodName := ⟨RX12, "ofPerson", "(II)I"⟩
abbrev cX12_call : ByteArray := prog_14_method_23_code
def yX12_call : MethodName := ⟨RX12, "call", "(II)I"⟩
abbrev cX12_isCall : ByteArray := prog_14_method_24_code
def yX12_isCall : MethodName := ⟨RX12, "isCall", "(I)Z"⟩
abbrev cX12_learnt : ByteArray := prog_14_method_25_code
def yX12_learnt : MethodName := ⟨RX12, "learnt", "(II)I"⟩
abbrev cX12_kindOf : ByteArray := prog_14_method_26_code
def yX12_kindOf : MethodName := ⟨RX12, "kindOf", "(I)I"⟩
abbrev cX12_ofCall : ByteArray := prog_14_method_27_code
def yX12_ofCall : MethodName := ⟨RX12, "ofCall", "(II)I"⟩
abbrev cX12_back : ByteArray := prog_14_method_28_code
def yX12_back : MethodName := ⟨RX12, "back", "()I"⟩
abbrev cX12_mayRing : ByteArray := prog_14_method_29_code
def yX12_mayRing : MethodName := ⟨RX12, "mayRing", "([IIIIII)Z"⟩
abbrev cX12_may : ByteArray := prog_14_method_30_code
def yX12_may : MethodName := ⟨RX12, "may", "(II)I"⟩
abbrev cX12_placeOf : ByteArray := prog_14_method_31_code
def yX12_placeOf : MethodName := ⟨RX12, "placeOf", "(II)I"⟩
abbrev cX12_open : ByteArray := prog_14_method_32_code
def yX12_open : MethodName := ⟨RX12, "open", "(III)V"⟩
abbrev cX12_add : ByteArray := prog_14_method_33_code
def yX12_add : MethodName := ⟨RX12, "add", "(II)V"⟩
abbrev cX12_close : ByteArray := prog_14_method_34_code
def yX12_close : MethodName := ⟨RX12, "close", "(II)V"⟩
abbrev cX12_lay : ByteArray := prog_14_method_35_code
def yX12_lay : MethodName := ⟨RX12, "lay", "(II)I"⟩
abbrev cX12_lookAt : ByteArray := prog_14_method_36_code
def yX12_lookAt : MethodName := ⟨RX12, "lookAt", "([III)V"⟩
abbrev cX12_layNow : ByteArray := prog_14_method_37_code
def yX12_layNow : MethodName := ⟨RX12, "layNow", "(I)I"⟩
abbrev cX12_runs : ByteArray := prog_14_method_38_code
def yX12_runs : MethodName := ⟨RX12, "runs", "(II)J"⟩
abbrev cX12_verdictAt : ByteArray := prog_14_method_39_code
def yX12_verdictAt : MethodName := ⟨RX12, "verdictAt", "(I)I"⟩
abbrev cX12_verdict : ByteArray := prog_14_method_40_code
def yX12_verdict : MethodName := ⟨RX12, "verdict", "(I)I"⟩
abbrev cX12_calls : ByteArray := prog_14_method_41_code
def yX12_calls : MethodName := ⟨RX12, "calls", "(II)I"⟩
abbrev cX12_keeps : ByteArray := prog_14_method_42_code
def yX12_keeps : MethodName := ⟨RX12, "keeps", "(III)I"⟩
abbrev cX12_best : ByteArray := prog_14_method_43_code
def yX12_best : MethodName := ⟨RX12, "best", "(II)I"⟩
abbrev cX12_layRow : ByteArray := prog_14_method_44_code
def yX12_layRow : MethodName := ⟨RX12, "layRow", "(I)I"⟩
abbrev cX12_seesAlike : ByteArray := prog_14_method_45_code
def yX12_seesAlike : MethodName := ⟨RX12, "seesAlike", "(I)Z"⟩
abbrev cX12_layAlike : ByteArray := prog_14_method_46_code
def yX12_layAlike : MethodName := ⟨RX12, "layAlike", "(I)V"⟩
abbrev cX12_alike : ByteArray := prog_14_method_47_code
def yX12_alike : MethodName := ⟨RX12, "alike", "(I)I"⟩
abbrev cX12_sure : ByteArray := prog_14_method_48_code
def yX12_sure : MethodName := ⟨RX12, "sure", "(III)I"⟩
abbrev cX12_known : ByteArray := prog_14_method_49_code
def yX12_known : MethodName := ⟨RX12, "known", "(II)I"⟩
abbrev cX12_end : ByteArray := prog_14_method_50_code
def yX12_end : MethodName := ⟨RX12, "end", "(I)I"⟩
abbrev cX12_isJoined : ByteArray := prog_14_method_51_code
def yX12_isJoined : MethodName := ⟨RX12, "isJoined", "([II)Z"⟩
abbrev cX12_joined : ByteArray := prog_14_method_52_code
def yX12_joined : MethodName := ⟨RX12, "joined", "()I"⟩
abbrev cX12_layOther : ByteArray := prog_14_method_53_code
def yX12_layOther : MethodName := ⟨RX12, "layOther", "(II)V"⟩
abbrev cX12_bridge : ByteArray := prog_14_method_54_code
def yX12_bridge : MethodName := ⟨RX12, "bridge", "(I)I"⟩
abbrev cX12_sun : ByteArray := prog_14_method_55_code
def yX12_sun : MethodName := ⟨RX12, "sun", "()I"⟩
abbrev cX12_verdictFrom : ByteArray := prog_14_method_56_code
def yX12_verdictFrom : MethodName := ⟨RX12, "verdictFrom", "([III)I"⟩
abbrev cX12_mend : ByteArray := prog_14_method_57_code
def yX12_mend : MethodName := ⟨RX12, "mend", "(II)I"⟩
abbrev cX12_layNet : ByteArray := prog_14_method_58_code
def yX12_layNet : MethodName := ⟨RX12, "layNet", "(II)V"⟩
abbrev cX12_nets : ByteArray := prog_14_method_59_code
def yX12_nets : MethodName := ⟨RX12, "nets", "(III)I"⟩
abbrev cX12_within : ByteArray := prog_14_method_60_code
def yX12_within : MethodName := ⟨RX12, "within", "(II)I"⟩
abbrev cX12_sheet : ByteArray := prog_14_method_61_code
def yX12_sheet : MethodName := ⟨RX12, "sheet", "(III)I"⟩
abbrev cX12_lose : ByteArray := prog_14_method_62_code
def yX12_lose : MethodName := ⟨RX12, "lose", "(I)I"⟩
abbrev cX12_put : ByteArray := prog_14_method_63_code
def yX12_put : MethodName := ⟨RX12, "put", "(III)I"⟩
abbrev cX12_cell : ByteArray := prog_14_method_64_code
def yX12_cell : MethodName := ⟨RX12, "cell", "(III)J"⟩
abbrev cX12_copy : ByteArray := prog_14_method_65_code
def yX12_copy : MethodName := ⟨RX12, "copy", "(IIIII)I"⟩
abbrev cX12_begins : ByteArray := prog_14_method_66_code
def yX12_begins : MethodName := ⟨RX12, "begins", "(I)V"⟩
abbrev cX12_tell : ByteArray := prog_14_method_67_code
def yX12_tell : MethodName := ⟨RX12, "tell", "(I)I"⟩
abbrev cX12_log : ByteArray := prog_14_method_68_code
def yX12_log : MethodName := ⟨RX12, "log", "(I)I"⟩
abbrev cX12_as : ByteArray := prog_14_method_69_code
def yX12_as : MethodName := ⟨RX12, "as", "(II)I"⟩
abbrev cX12_trace : ByteArray := prog_14_method_70_code
def yX12_trace : MethodName := ⟨RX12, "trace", "()I"⟩
abbrev cX12_fault : ByteArray := prog_14_method_71_code
def yX12_fault : MethodName := ⟨RX12, "fault", "()I"⟩
abbrev cX12_many : ByteArray := prog_14_method_72_code
def yX12_many : MethodName := ⟨RX12, "many", "(I)I"⟩
def RJ6 : String := "java/lang/Integer"
abbrev cJ6_bitCount_0f7a4 : ByteArray := prog_15_method_49_code
def yJ6_bitCount_0f7a4 : MethodName := ⟨RJ6, "bitCount", "(I)I"⟩
def RJ9 : String := "java/lang/Math"
abbrev cJ9_max_7cf53 : ByteArray := prog_16_method_65_code
def yJ9_max_7cf53 : MethodName := ⟨RJ9, "max", "(II)I"⟩
abbrev cJ9_min_7cf53 : ByteArray := prog_16_method_69_code
def yJ9_min_7cf53 : MethodName := ⟨RJ9, "min", "(II)I"⟩
def RJ10 : String := "java/lang/System"
def RJ7 : String := "java/util/Arrays"
abbrev cJ7_fill_d0a16 : ByteArray := prog_18_method_101_code
def yJ7_fill_d0a16 : MethodName := ⟨RJ7, "fill", "([JJ)V"⟩
def RL : String := "CallRoundsLaw"
abbrev cL_law : ByteArray := code
def yL_law : MethodName := ⟨RL, "law", "([I)Z"⟩
abbrev vwCl : List vw_C := [(RX0, TX0, 5), (RX1, TX1, 5), (RX3, TX3, 2), (RX4, TX4, 5), (RX6, TX6, 6), (RX7, TX7, 2), (RX8, TX8, 2), (RX9, TX9, 1), (RX10, TX10, 5), (RX11, TX11, 13), (RX12, TX12, 30)]
/-- the words that last over calls -/
def tG : List Cond := lw_tbl.filter goodWord
theorem tG_good : ∀ w ∈ tG, (w.onTables && w.keeps) = true ∨ ∃ ty, w = .arrayClass ty := fun _ h => good_of_word (List.mem_filter.mp h).2
theorem tG_of {w : Cond} (i : Nat) (h : tables_1[i]? = some w) (g : goodWord w = true) : w ∈ tG := List.mem_filter.mpr ⟨List.mem_append_right _ (List.mem_of_getElem? h), g⟩
theorem tG_sel {y : MethodName} (i : Nat) (h : (k2_sels lw_privs)[i]? = some (.selects y.cls y y)) : Cond.selects y.cls y y ∈ tG := List.mem_filter.mpr ⟨List.mem_append_left _ (List.mem_of_getElem? h), rfl⟩
theorem tG_tbl {args : Array Value} {s : State} (h : ∀ w ∈ lw_tbl, w.before args s = true) : ∀ w ∈ tG, w.before args s = true := fun w hw => h w (List.mem_filter.mp hw).1
theorem kw_0 : (Cond.initialized "CallRoundsLaw") ∈ tG := tG_of 0 (by decide +kernel) rfl
theorem kw_1 : (Cond.initialized "CallRounds") ∈ tG := tG_of 1 (by decide +kernel) rfl
theorem kw_2 : (Cond.initialized "CallRounds$Trace") ∈ tG := tG_of 2 (by decide +kernel) rfl
theorem kw_3 : (Cond.initialized "CallRounds$Runs") ∈ tG := tG_of 3 (by decide +kernel) rfl
theorem kw_4 : (Cond.initialized "CallRounds$Table") ∈ tG := tG_of 4 (by decide +kernel) rfl
theorem kw_5 : (Cond.initialized "CallRounds$Alike") ∈ tG := tG_of 5 (by decide +kernel) rfl
theorem kw_6 : (Cond.initialized "CallRoundsModel") ∈ tG := tG_of 6 (by decide +kernel) rfl
theorem kw_7 : (Cond.initialized "CallRounds$NetText") ∈ tG := tG_of 7 (by decide +kernel) rfl
theorem kw_8 : (Cond.initialized "CallRounds$Position") ∈ tG := tG_of 8 (by decide +kernel) rfl
theorem kw_9 : (Cond.initialized "CallRounds$Call") ∈ tG := tG_of 9 (by decide +kernel) rfl
theorem kw_10 : (Cond.initialized "CallRounds$News") ∈ tG := tG_of 10 (by decide +kernel) rfl
theorem kw_11 : (Cond.initialized "CallRounds$Whole") ∈ tG := tG_of 11 (by decide +kernel) rfl
theorem kw_12 : (Cond.initialized "java/util/Arrays") ∈ tG := tG_of 12 (by decide +kernel) rfl
theorem kw_13 : (Cond.initialized "java/lang/Math") ∈ tG := tG_of 13 (by decide +kernel) rfl
theorem kw_14 : (Cond.initialized "java/lang/Integer") ∈ tG := tG_of 14 (by decide +kernel) rfl
theorem kw_15 : (Cond.initialized "CallRounds$Net") ∈ tG := tG_of 15 (by decide +kernel) rfl
theorem kw_16 : (Cond.initialized "CallRounds$Sheet") ∈ tG := tG_of 16 (by decide +kernel) rfl
theorem kw_17 : (Cond.initialized "java/lang/System") ∈ tG := tG_of 17 (by decide +kernel) rfl
theorem kw_18 : (Cond.classLink "CallRoundsLaw" (7 : Nat) "CallRounds") ∈ tG := tG_of 18 (by decide +kernel) rfl
theorem kw_19 : (Cond.instantiable "CallRounds" (13 : Nat)) ∈ tG := tG_of 19 (by decide +kernel) rfl
theorem kw_20 : (Cond.methodLink "CallRoundsLaw" (9 : Nat) yX11_init) ∈ tG := tG_of 20 (by decide +kernel) rfl
theorem kw_21 : (Cond.instanceMethod yX11_init) ∈ tG := tG_of 21 (by decide +kernel) rfl
theorem kw_22 : (Cond.code yX11_init prog_1_method_1_code (1 : Nat) (Option.none : Option FieldType)) ∈ tG := tG_of 22 (by decide +kernel) rfl
theorem kw_23 : (Cond.methodLink "CallRounds" (3 : Nat) ⟨"java/lang/Object", "<init>", "()V"⟩) ∈ tG := tG_of 23 (by decide +kernel) rfl
theorem kw_24 : (Cond.instanceMethod ⟨"java/lang/Object", "<init>", "()V"⟩) ∈ tG := tG_of 24 (by decide +kernel) rfl
theorem kw_25 : (Cond.code ⟨"java/lang/Object", "<init>", "()V"⟩ object_method_1_code (1 : Nat) (Option.none : Option FieldType)) ∈ tG := tG_of 25 (by decide +kernel) rfl
theorem kw_26 : (Cond.classLink "CallRounds" (11 : Nat) "CallRounds$Sheet") ∈ tG := tG_of 26 (by decide +kernel) rfl
theorem kw_28 : (Cond.classLink "CallRounds" (17 : Nat) "CallRounds$Call") ∈ tG := tG_of 28 (by decide +kernel) rfl
theorem kw_30 : (Cond.classLink "CallRounds" (23 : Nat) "CallRounds$Trace") ∈ tG := tG_of 30 (by decide +kernel) rfl
theorem kw_31 : (Cond.instantiable "CallRounds$Trace" (1 : Nat)) ∈ tG := tG_of 31 (by decide +kernel) rfl
theorem kw_32 : (Cond.methodLink "CallRounds" (25 : Nat) yX9_init) ∈ tG := tG_of 32 (by decide +kernel) rfl
theorem kw_33 : (Cond.instanceMethod yX9_init) ∈ tG := tG_of 33 (by decide +kernel) rfl
theorem kw_34 : (Cond.code yX9_init prog_11_method_1_code (1 : Nat) (Option.none : Option FieldType)) ∈ tG := tG_of 34 (by decide +kernel) rfl
theorem kw_35 : (Cond.methodLink "CallRounds$Trace" (1 : Nat) ⟨"java/lang/Object", "<init>", "()V"⟩) ∈ tG := tG_of 35 (by decide +kernel) rfl
theorem kw_36 : (Cond.fieldLink "CallRounds$Trace" (7 : Nat) "CallRounds$Trace" "value" "I") ∈ tG := tG_of 36 (by decide +kernel) rfl
theorem kw_37 : (Cond.fieldLink "CallRounds" (281 : Nat) "CallRounds$Trace" "value" "I") ∈ tG := tG_of 37 (by decide +kernel) rfl
theorem kw_41 : (Cond.classLink "CallRounds" (30 : Nat) "CallRounds$Runs") ∈ tG := tG_of 41 (by decide +kernel) rfl
theorem kw_42 : (Cond.instantiable "CallRounds$Runs" (6 : Nat)) ∈ tG := tG_of 42 (by decide +kernel) rfl
theorem kw_43 : (Cond.methodLink "CallRounds" (32 : Nat) yX6_init) ∈ tG := tG_of 43 (by decide +kernel) rfl
theorem kw_44 : (Cond.instanceMethod yX6_init) ∈ tG := tG_of 44 (by decide +kernel) rfl
theorem kw_45 : (Cond.code yX6_init prog_8_method_1_code (1 : Nat) (Option.none : Option FieldType)) ∈ tG := tG_of 45 (by decide +kernel) rfl
theorem kw_46 : (Cond.methodLink "CallRounds$Runs" (3 : Nat) ⟨"java/lang/Object", "<init>", "()V"⟩) ∈ tG := tG_of 46 (by decide +kernel) rfl
theorem kw_47 : (Cond.classLink "CallRounds$Runs" (9 : Nat) "CallRounds$Table") ∈ tG := tG_of 47 (by decide +kernel) rfl
theorem kw_48 : (Cond.instantiable "CallRounds$Table" (2 : Nat)) ∈ tG := tG_of 48 (by decide +kernel) rfl
theorem kw_49 : (Cond.methodLink "CallRounds$Runs" (11 : Nat) yX8_init) ∈ tG := tG_of 49 (by decide +kernel) rfl
theorem kw_50 : (Cond.instanceMethod yX8_init) ∈ tG := tG_of 50 (by decide +kernel) rfl
theorem kw_51 : (Cond.code yX8_init prog_10_method_1_code (1 : Nat) (Option.none : Option FieldType)) ∈ tG := tG_of 51 (by decide +kernel) rfl
theorem kw_52 : (Cond.methodLink "CallRounds$Table" (3 : Nat) ⟨"java/lang/Object", "<init>", "()V"⟩) ∈ tG := tG_of 52 (by decide +kernel) rfl
theorem kw_53 : (Cond.fieldLink "CallRounds$Table" (9 : Nat) "CallRounds$Table" "keys" "[J") ∈ tG := tG_of 53 (by decide +kernel) rfl
theorem kw_54 : (Cond.fieldLink "CallRounds$Table" (13 : Nat) "CallRounds$Table" "used" "I") ∈ tG := tG_of 54 (by decide +kernel) rfl
theorem kw_60 : (Cond.arrayClass FieldType.long) ∈ tG := tG_of 60 (by decide +kernel) rfl
theorem kw_61 : (Cond.fieldLink "CallRounds$Runs" (12 : Nat) "CallRounds$Runs" "counted" "LCallRounds$Table;") ∈ tG := tG_of 61 (by decide +kernel) rfl
theorem kw_62 : (Cond.fieldLink "CallRounds$Runs" (18 : Nat) "CallRounds$Runs" "all" "[J") ∈ tG := tG_of 62 (by decide +kernel) rfl
theorem kw_63 : (Cond.fieldLink "CallRounds$Runs" (22 : Nat) "CallRounds$Runs" "good" "[J") ∈ tG := tG_of 63 (by decide +kernel) rfl
theorem kw_64 : (Cond.fieldLink "CallRounds$Runs" (25 : Nat) "CallRounds$Runs" "fewest" "[B") ∈ tG := tG_of 64 (by decide +kernel) rfl
theorem kw_65 : (Cond.fieldLink "CallRounds$Runs" (29 : Nat) "CallRounds$Runs" "most" "[B") ∈ tG := tG_of 65 (by decide +kernel) rfl
theorem kw_66 : (Cond.fieldLink "CallRounds$Runs" (32 : Nat) "CallRounds$Runs" "included" "LCallRounds$Table;") ∈ tG := tG_of 66 (by decide +kernel) rfl
theorem kw_80 : (Cond.arrayClass FieldType.byte) ∈ tG := tG_of 80 (by decide +kernel) rfl
theorem kw_81 : (Cond.classLink "CallRounds" (37 : Nat) "CallRounds$Alike") ∈ tG := tG_of 81 (by decide +kernel) rfl
theorem kw_82 : (Cond.instantiable "CallRounds$Alike" (5 : Nat)) ∈ tG := tG_of 82 (by decide +kernel) rfl
theorem kw_83 : (Cond.methodLink "CallRounds" (39 : Nat) yX0_init) ∈ tG := tG_of 83 (by decide +kernel) rfl
theorem kw_84 : (Cond.instanceMethod yX0_init) ∈ tG := tG_of 84 (by decide +kernel) rfl
theorem kw_85 : (Cond.code yX0_init prog_2_method_1_code (1 : Nat) (Option.none : Option FieldType)) ∈ tG := tG_of 85 (by decide +kernel) rfl
theorem kw_86 : (Cond.methodLink "CallRounds$Alike" (3 : Nat) ⟨"java/lang/Object", "<init>", "()V"⟩) ∈ tG := tG_of 86 (by decide +kernel) rfl
theorem kw_87 : (Cond.fieldLink "CallRounds$Alike" (9 : Nat) "CallRounds$Alike" "rows" "[I") ∈ tG := tG_of 87 (by decide +kernel) rfl
theorem kw_88 : (Cond.fieldLink "CallRounds$Alike" (15 : Nat) "CallRounds$Alike" "sureSecrets" "[I") ∈ tG := tG_of 88 (by decide +kernel) rfl
theorem kw_89 : (Cond.fieldLink "CallRounds$Alike" (21 : Nat) "CallRounds$Alike" "found" "I") ∈ tG := tG_of 89 (by decide +kernel) rfl
theorem kw_90 : (Cond.fieldLink "CallRounds$Alike" (18 : Nat) "CallRounds$Alike" "sights" "[I") ∈ tG := tG_of 90 (by decide +kernel) rfl
theorem kw_91 : (Cond.fieldLink "CallRounds$Alike" (39 : Nat) "CallRounds$Alike" "sightCount" "I") ∈ tG := tG_of 91 (by decide +kernel) rfl
theorem kw_103 : (Cond.arrayClass FieldType.int) ∈ tG := tG_of 103 (by decide +kernel) rfl
theorem kw_104 : (Cond.fieldLink "CallRounds" (13 : Nat) "CallRounds" "sheets" "[LCallRounds$Sheet;") ∈ tG := tG_of 104 (by decide +kernel) rfl
theorem kw_105 : (Cond.fieldLink "CallRounds" (19 : Nat) "CallRounds" "made" "[LCallRounds$Call;") ∈ tG := tG_of 105 (by decide +kernel) rfl
theorem kw_106 : (Cond.fieldLink "CallRounds" (128 : Nat) "CallRounds" "madeCount" "I") ∈ tG := tG_of 106 (by decide +kernel) rfl
theorem kw_107 : (Cond.fieldLink "CallRounds" (110 : Nat) "CallRounds" "start" "J") ∈ tG := tG_of 107 (by decide +kernel) rfl
theorem kw_108 : (Cond.fieldLink "CallRounds" (99 : Nat) "CallRounds" "now" "J") ∈ tG := tG_of 108 (by decide +kernel) rfl
theorem kw_109 : (Cond.fieldLink "CallRounds" (51 : Nat) "CallRounds" "fault" "I") ∈ tG := tG_of 109 (by decide +kernel) rfl
theorem kw_110 : (Cond.fieldLink "CallRounds" (26 : Nat) "CallRounds" "trace" "LCallRounds$Trace;") ∈ tG := tG_of 110 (by decide +kernel) rfl
theorem kw_111 : (Cond.fieldLink "CallRounds" (33 : Nat) "CallRounds" "runs" "LCallRounds$Runs;") ∈ tG := tG_of 111 (by decide +kernel) rfl
theorem kw_112 : (Cond.fieldLink "CallRounds" (40 : Nat) "CallRounds" "alike" "LCallRounds$Alike;") ∈ tG := tG_of 112 (by decide +kernel) rfl
theorem kw_113 : (Cond.fieldLink "CallRounds" (44 : Nat) "CallRounds" "mending" "[I") ∈ tG := tG_of 113 (by decide +kernel) rfl
theorem kw_114 : (Cond.fieldLink "CallRounds" (240 : Nat) "CallRounds" "mendingFound" "I") ∈ tG := tG_of 114 (by decide +kernel) rfl
theorem kw_115 : (Cond.fieldLink "CallRounds" (48 : Nat) "CallRounds" "netCounts" "[I") ∈ tG := tG_of 115 (by decide +kernel) rfl
theorem kw_116 : (Cond.fieldLink "CallRounds" (246 : Nat) "CallRounds" "netsCounted" "I") ∈ tG := tG_of 116 (by decide +kernel) rfl
theorem kw_144 : (Cond.methodLink "CallRoundsLaw" (13 : Nat) yX11_net) ∈ tG := tG_of 144 (by decide +kernel) rfl
theorem kw_145 : (Cond.instanceMethod yX11_net) ∈ tG := tG_of 145 (by decide +kernel) rfl
theorem kw_146 : (Cond.selects "CallRounds" yX11_net yX11_net) ∈ tG := tG_of 146 (by decide +kernel) rfl
theorem kw_147 : (Cond.code yX11_net prog_1_method_2_code (8 : Nat) (Option.some FieldType.int)) ∈ tG := tG_of 147 (by decide +kernel) rfl
theorem kw_148 : (Cond.methodLink "CallRounds" (55 : Nat) yX11_isSheet) ∈ tG := tG_of 148 (by decide +kernel) rfl
theorem kw_150 : (Cond.instanceMethod yX11_isSheet) ∈ tG := tG_of 150 (by decide +kernel) rfl
theorem kw_151 : (Cond.code yX11_isSheet prog_1_method_34_code (2 : Nat) (Option.some FieldType.boolean)) ∈ tG := tG_of 151 (by decide +kernel) rfl
theorem kw_152 : (Cond.methodLink "CallRounds" (59 : Nat) yX11_isLane) ∈ tG := tG_of 152 (by decide +kernel) rfl
theorem kw_154 : (Cond.instanceMethod yX11_isLane) ∈ tG := tG_of 154 (by decide +kernel) rfl
theorem kw_155 : (Cond.code yX11_isLane prog_1_method_35_code (2 : Nat) (Option.some FieldType.boolean)) ∈ tG := tG_of 155 (by decide +kernel) rfl
theorem kw_156 : (Cond.methodLink "CallRounds" (62 : Nat) yX11_faulted) ∈ tG := tG_of 156 (by decide +kernel) rfl
theorem kw_158 : (Cond.instanceMethod yX11_faulted) ∈ tG := tG_of 158 (by decide +kernel) rfl
theorem kw_159 : (Cond.code yX11_faulted prog_1_method_42_code (2 : Nat) (Option.some FieldType.int)) ∈ tG := tG_of 159 (by decide +kernel) rfl
theorem kw_160 : (Cond.methodLink "CallRounds" (69 : Nat) yX7_has) ∈ tG := tG_of 160 (by decide +kernel) rfl
theorem kw_161 : (Cond.instanceMethod yX7_has) ∈ tG := tG_of 161 (by decide +kernel) rfl
theorem kw_162 : (Cond.selects "CallRounds$Sheet" yX7_has yX7_has) ∈ tG := tG_of 162 (by decide +kernel) rfl
theorem kw_163 : (Cond.code yX7_has prog_9_method_2_code (3 : Nat) (Option.some FieldType.boolean)) ∈ tG := tG_of 163 (by decide +kernel) rfl
theorem kw_164 : (Cond.classLink "CallRounds" (73 : Nat) "CallRounds$NetText") ∈ tG := tG_of 164 (by decide +kernel) rfl
theorem kw_165 : (Cond.instantiable "CallRounds$NetText" (2 : Nat)) ∈ tG := tG_of 165 (by decide +kernel) rfl
theorem kw_166 : (Cond.methodLink "CallRounds" (75 : Nat) yX3_init) ∈ tG := tG_of 166 (by decide +kernel) rfl
theorem kw_167 : (Cond.instanceMethod yX3_init) ∈ tG := tG_of 167 (by decide +kernel) rfl
theorem kw_168 : (Cond.code yX3_init prog_5_method_1_code (1 : Nat) (Option.none : Option FieldType)) ∈ tG := tG_of 168 (by decide +kernel) rfl
theorem kw_169 : (Cond.methodLink "CallRounds$NetText" (3 : Nat) ⟨"java/lang/Object", "<init>", "()V"⟩) ∈ tG := tG_of 169 (by decide +kernel) rfl
theorem kw_170 : (Cond.fieldLink "CallRounds" (80 : Nat) "CallRounds$NetText" "persons" "I") ∈ tG := tG_of 170 (by decide +kernel) rfl
theorem kw_171 : (Cond.fieldLink "CallRounds$NetText" (27 : Nat) "CallRounds$NetText" "persons" "I") ∈ tG := tG_of 171 (by decide +kernel) rfl
theorem kw_172 : (Cond.fieldLink "CallRounds" (83 : Nat) "CallRounds$NetText" "numbers" "I") ∈ tG := tG_of 172 (by decide +kernel) rfl
theorem kw_173 : (Cond.fieldLink "CallRounds$NetText" (35 : Nat) "CallRounds$NetText" "numbers" "I") ∈ tG := tG_of 173 (by decide +kernel) rfl
theorem kw_179 : (Cond.methodLink "CallRounds" (76 : Nat) yX3_read) ∈ tG := tG_of 179 (by decide +kernel) rfl
theorem kw_180 : (Cond.instanceMethod yX3_read) ∈ tG := tG_of 180 (by decide +kernel) rfl
theorem kw_181 : (Cond.selects "CallRounds$NetText" yX3_read yX3_read) ∈ tG := tG_of 181 (by decide +kernel) rfl
theorem kw_182 : (Cond.code yX3_read prog_5_method_2_code (5 : Nat) (Option.some FieldType.int)) ∈ tG := tG_of 182 (by decide +kernel) rfl
theorem kw_183 : (Cond.methodLink "CallRounds$NetText" (9 : Nat) yX3_firstBroken) ∈ tG := tG_of 183 (by decide +kernel) rfl
theorem kw_185 : (Cond.instanceMethod yX3_firstBroken) ∈ tG := tG_of 185 (by decide +kernel) rfl
theorem kw_186 : (Cond.code yX3_firstBroken prog_5_method_3_code (7 : Nat) (Option.some FieldType.int)) ∈ tG := tG_of 186 (by decide +kernel) rfl
theorem kw_187 : (Cond.methodLink "CallRounds$NetText" (18 : Nat) yX7_at) ∈ tG := tG_of 187 (by decide +kernel) rfl
theorem kw_188 : (Cond.instanceMethod yX7_at) ∈ tG := tG_of 188 (by decide +kernel) rfl
theorem kw_189 : (Cond.selects "CallRounds$Sheet" yX7_at yX7_at) ∈ tG := tG_of 189 (by decide +kernel) rfl
theorem kw_190 : (Cond.code yX7_at prog_9_method_3_code (2 : Nat) (Option.some FieldType.int)) ∈ tG := tG_of 190 (by decide +kernel) rfl
theorem kw_191 : (Cond.methodLink "CallRounds$Sheet" (17 : Nat) yX7_has) ∈ tG := tG_of 191 (by decide +kernel) rfl
theorem kw_192 : (Cond.methodLink "CallRounds$NetText" (24 : Nat) yX3_beginItem) ∈ tG := tG_of 192 (by decide +kernel) rfl
theorem kw_194 : (Cond.instanceMethod yX3_beginItem) ∈ tG := tG_of 194 (by decide +kernel) rfl
theorem kw_195 : (Cond.code yX3_beginItem prog_5_method_4_code (1 : Nat) (Option.none : Option FieldType)) ∈ tG := tG_of 195 (by decide +kernel) rfl
theorem kw_197 : (Cond.static yX11_pairOf) ∈ tG := tG_of 197 (by decide +kernel) rfl
theorem kw_198 : (Cond.code yX11_pairOf prog_1_method_51_code (2 : Nat) (Option.some FieldType.int)) ∈ tG := tG_of 198 (by decide +kernel) rfl
theorem kw_199 : (Cond.methodLink "CallRounds$NetText" (31 : Nat) yX3_takesNumber) ∈ tG := tG_of 199 (by decide +kernel) rfl
theorem kw_201 : (Cond.instanceMethod yX3_takesNumber) ∈ tG := tG_of 201 (by decide +kernel) rfl
theorem kw_202 : (Cond.code yX3_takesNumber prog_5_method_5_code (3 : Nat) (Option.some FieldType.boolean)) ∈ tG := tG_of 202 (by decide +kernel) rfl
theorem kw_203 : (Cond.methodLink "CallRounds$NetText" (42 : Nat) yX3_isDigit) ∈ tG := tG_of 203 (by decide +kernel) rfl
theorem kw_204 : (Cond.static yX3_isDigit) ∈ tG := tG_of 204 (by decide +kernel) rfl
theorem kw_205 : (Cond.code yX3_isDigit prog_5_method_7_code (1 : Nat) (Option.some FieldType.boolean)) ∈ tG := tG_of 205 (by decide +kernel) rfl
theorem kw_206 : (Cond.methodLink "CallRounds$NetText" (15 : Nat) yX3_firstStranger) ∈ tG := tG_of 206 (by decide +kernel) rfl
theorem kw_208 : (Cond.instanceMethod yX3_firstStranger) ∈ tG := tG_of 208 (by decide +kernel) rfl
theorem kw_209 : (Cond.code yX3_firstStranger prog_5_method_6_code (6 : Nat) (Option.some FieldType.int)) ∈ tG := tG_of 209 (by decide +kernel) rfl
theorem kw_210 : (Cond.methodLink "CallRounds" (86 : Nat) yX5_first) ∈ tG := tG_of 210 (by decide +kernel) rfl
theorem kw_211 : (Cond.static yX5_first) ∈ tG := tG_of 211 (by decide +kernel) rfl
theorem kw_212 : (Cond.code yX5_first prog_7_method_2_code (5 : Nat) (Option.some FieldType.long)) ∈ tG := tG_of 212 (by decide +kernel) rfl
theorem kw_214 : (Cond.methodLink "CallRounds" (92 : Nat) yX11_begin) ∈ tG := tG_of 214 (by decide +kernel) rfl
theorem kw_216 : (Cond.instanceMethod yX11_begin) ∈ tG := tG_of 216 (by decide +kernel) rfl
theorem kw_217 : (Cond.code yX11_begin prog_1_method_43_code (3 : Nat) (Option.none : Option FieldType)) ∈ tG := tG_of 217 (by decide +kernel) rfl
theorem kw_218 : (Cond.methodLink "CallRounds" (139 : Nat) yX11_moveTo) ∈ tG := tG_of 218 (by decide +kernel) rfl
theorem kw_220 : (Cond.instanceMethod yX11_moveTo) ∈ tG := tG_of 220 (by decide +kernel) rfl
theorem kw_221 : (Cond.code yX11_moveTo prog_1_method_44_code (3 : Nat) (Option.none : Option FieldType)) ∈ tG := tG_of 221 (by decide +kernel) rfl
theorem kw_222 : (Cond.methodLink "CallRounds" (292 : Nat) yX0_forget) ∈ tG := tG_of 222 (by decide +kernel) rfl
theorem kw_223 : (Cond.instanceMethod yX0_forget) ∈ tG := tG_of 223 (by decide +kernel) rfl
theorem kw_224 : (Cond.selects "CallRounds$Alike" yX0_forget yX0_forget) ∈ tG := tG_of 224 (by decide +kernel) rfl
theorem kw_225 : (Cond.code yX0_forget prog_2_method_2_code (1 : Nat) (Option.none : Option FieldType)) ∈ tG := tG_of 225 (by decide +kernel) rfl
theorem kw_226 : (Cond.methodLink "CallRoundsLaw" (18 : Nat) yX11_ofPerson) ∈ tG := tG_of 226 (by decide +kernel) rfl
theorem kw_227 : (Cond.instanceMethod yX11_ofPerson) ∈ tG := tG_of 227 (by decide +kernel) rfl
theorem kw_228 : (Cond.selects "CallRounds" yX11_ofPerson yX11_ofPerson) ∈ tG := tG_of 228 (by decide +kernel) rfl
theorem kw_229 : (Cond.code yX11_ofPerson prog_1_method_3_code (3 : Nat) (Option.some FieldType.int)) ∈ tG := tG_of 229 (by decide +kernel) rfl
theorem kw_230 : (Cond.methodLink "CallRounds" (96 : Nat) yX11_isPerson) ∈ tG := tG_of 230 (by decide +kernel) rfl
theorem kw_232 : (Cond.instanceMethod yX11_isPerson) ∈ tG := tG_of 232 (by decide +kernel) rfl
theorem kw_233 : (Cond.code yX11_isPerson prog_1_method_37_code (2 : Nat) (Option.some FieldType.boolean)) ∈ tG := tG_of 233 (by decide +kernel) rfl
theorem kw_234 : (Cond.methodLink "CallRounds" (214 : Nat) yX5_persons) ∈ tG := tG_of 234 (by decide +kernel) rfl
theorem kw_235 : (Cond.static yX5_persons) ∈ tG := tG_of 235 (by decide +kernel) rfl
theorem kw_236 : (Cond.code yX5_persons prog_7_method_3_code (2 : Nat) (Option.some FieldType.int)) ∈ tG := tG_of 236 (by decide +kernel) rfl
theorem kw_237 : (Cond.methodLink "CallRounds" (103 : Nat) yX5_secretsOf) ∈ tG := tG_of 237 (by decide +kernel) rfl
theorem kw_238 : (Cond.static yX5_secretsOf) ∈ tG := tG_of 238 (by decide +kernel) rfl
theorem kw_239 : (Cond.code yX5_secretsOf prog_7_method_7_code (3 : Nat) (Option.some FieldType.int)) ∈ tG := tG_of 239 (by decide +kernel) rfl
theorem kw_240 : (Cond.methodLink "CallRounds" (107 : Nat) yX5_numbersOf) ∈ tG := tG_of 240 (by decide +kernel) rfl
theorem kw_241 : (Cond.static yX5_numbersOf) ∈ tG := tG_of 241 (by decide +kernel) rfl
theorem kw_242 : (Cond.code yX5_numbersOf prog_7_method_8_code (3 : Nat) (Option.some FieldType.int)) ∈ tG := tG_of 242 (by decide +kernel) rfl
theorem kw_243 : (Cond.methodLink "CallRounds" (113 : Nat) yX5_isExpert) ∈ tG := tG_of 243 (by decide +kernel) rfl
theorem kw_244 : (Cond.static yX5_isExpert) ∈ tG := tG_of 244 (by decide +kernel) rfl
theorem kw_245 : (Cond.code yX5_isExpert prog_7_method_11_code (3 : Nat) (Option.some FieldType.boolean)) ∈ tG := tG_of 245 (by decide +kernel) rfl
theorem kw_246 : (Cond.methodLink "CallRounds$Position" (20 : Nat) yX5_secretsOf) ∈ tG := tG_of 246 (by decide +kernel) rfl
theorem kw_247 : (Cond.methodLink "CallRounds$Position" (24 : Nat) yX5_everySecret) ∈ tG := tG_of 247 (by decide +kernel) rfl
theorem kw_248 : (Cond.static yX5_everySecret) ∈ tG := tG_of 248 (by decide +kernel) rfl
theorem kw_249 : (Cond.code yX5_everySecret prog_7_method_10_code (2 : Nat) (Option.some FieldType.int)) ∈ tG := tG_of 249 (by decide +kernel) rfl
theorem kw_250 : (Cond.methodLink "CallRounds$Position" (16 : Nat) yX5_persons) ∈ tG := tG_of 250 (by decide +kernel) rfl
theorem kw_251 : (Cond.methodLink "CallRounds" (117 : Nat) yX11_truth) ∈ tG := tG_of 251 (by decide +kernel) rfl
theorem kw_252 : (Cond.static yX11_truth) ∈ tG := tG_of 252 (by decide +kernel) rfl
theorem kw_253 : (Cond.code yX11_truth prog_1_method_49_code (1 : Nat) (Option.some FieldType.int)) ∈ tG := tG_of 253 (by decide +kernel) rfl
theorem kw_254 : (Cond.methodLink "CallRounds" (121 : Nat) yX5_hasToken) ∈ tG := tG_of 254 (by decide +kernel) rfl
theorem kw_255 : (Cond.static yX5_hasToken) ∈ tG := tG_of 255 (by decide +kernel) rfl
theorem kw_256 : (Cond.code yX5_hasToken prog_7_method_9_code (5 : Nat) (Option.some FieldType.boolean)) ∈ tG := tG_of 256 (by decide +kernel) rfl
theorem kw_257 : (Cond.methodLink "CallRoundsLaw" (23 : Nat) yX11_call) ∈ tG := tG_of 257 (by decide +kernel) rfl
theorem kw_258 : (Cond.instanceMethod yX11_call) ∈ tG := tG_of 258 (by decide +kernel) rfl
theorem kw_259 : (Cond.selects "CallRounds" yX11_call yX11_call) ∈ tG := tG_of 259 (by decide +kernel) rfl
theorem kw_260 : (Cond.code yX11_call prog_1_method_4_code (4 : Nat) (Option.some FieldType.int)) ∈ tG := tG_of 260 (by decide +kernel) rfl
theorem kw_261 : (Cond.methodLink "CallRounds" (125 : Nat) yX11_contains) ∈ tG := tG_of 261 (by decide +kernel) rfl
theorem kw_262 : (Cond.static yX11_contains) ∈ tG := tG_of 262 (by decide +kernel) rfl
theorem kw_263 : (Cond.code yX11_contains prog_1_method_50_code (2 : Nat) (Option.some FieldType.boolean)) ∈ tG := tG_of 263 (by decide +kernel) rfl
theorem kw_264 : (Cond.methodLink "CallRounds" (131 : Nat) yX11_newCall) ∈ tG := tG_of 264 (by decide +kernel) rfl
theorem kw_266 : (Cond.instanceMethod yX11_newCall) ∈ tG := tG_of 266 (by decide +kernel) rfl
theorem kw_267 : (Cond.code yX11_newCall prog_1_method_45_code (6 : Nat) (Option.some (FieldType.object "CallRounds$Call"))) ∈ tG := tG_of 267 (by decide +kernel) rfl
theorem kw_268 : (Cond.methodLink "CallRounds" (135 : Nat) yX5_ring) ∈ tG := tG_of 268 (by decide +kernel) rfl
theorem kw_269 : (Cond.static yX5_ring) ∈ tG := tG_of 269 (by decide +kernel) rfl
theorem kw_270 : (Cond.code yX5_ring prog_7_method_15_code (14 : Nat) (Option.some FieldType.long)) ∈ tG := tG_of 270 (by decide +kernel) rfl
theorem kw_271 : (Cond.methodLink "CallRounds$Position" (44 : Nat) yX5_numbersOf) ∈ tG := tG_of 271 (by decide +kernel) rfl
theorem kw_272 : (Cond.constantLong "CallRounds$Position" (51 : Nat) (-1 : Int64)) ∈ tG := tG_of 272 (by decide +kernel) rfl
theorem kw_273 : (Cond.instantiable "CallRounds$Call" (5 : Nat)) ∈ tG := tG_of 273 (by decide +kernel) rfl
theorem kw_274 : (Cond.methodLink "CallRounds" (295 : Nat) yX1_init) ∈ tG := tG_of 274 (by decide +kernel) rfl
theorem kw_275 : (Cond.instanceMethod yX1_init) ∈ tG := tG_of 275 (by decide +kernel) rfl
theorem kw_276 : (Cond.code yX1_init prog_3_method_1_code (8 : Nat) (Option.none : Option FieldType)) ∈ tG := tG_of 276 (by decide +kernel) rfl
theorem kw_277 : (Cond.methodLink "CallRounds$Call" (1 : Nat) ⟨"java/lang/Object", "<init>", "()V"⟩) ∈ tG := tG_of 277 (by decide +kernel) rfl
theorem kw_278 : (Cond.fieldLink "CallRounds$Call" (7 : Nat) "CallRounds$Call" "number" "I") ∈ tG := tG_of 278 (by decide +kernel) rfl
theorem kw_279 : (Cond.fieldLink "CallRounds" (159 : Nat) "CallRounds$Call" "number" "I") ∈ tG := tG_of 279 (by decide +kernel) rfl
theorem kw_280 : (Cond.fieldLink "CallRounds$Call" (13 : Nat) "CallRounds$Call" "ringer" "I") ∈ tG := tG_of 280 (by decide +kernel) rfl
theorem kw_281 : (Cond.fieldLink "CallRounds$News" (13 : Nat) "CallRounds$News" "ringer" "I") ∈ tG := tG_of 281 (by decide +kernel) rfl
theorem kw_282 : (Cond.sameField "CallRounds$News" "CallRounds$Call" "ringer" "I") ∈ tG := tG_of 282 (by decide +kernel) rfl
theorem kw_283 : (Cond.fieldLink "CallRounds" (150 : Nat) "CallRounds$Call" "ringer" "I") ∈ tG := tG_of 283 (by decide +kernel) rfl
theorem kw_284 : (Cond.fieldLink "CallRounds$Alike" (42 : Nat) "CallRounds$Call" "ringer" "I") ∈ tG := tG_of 284 (by decide +kernel) rfl
theorem kw_285 : (Cond.fieldLink "CallRounds$Call" (16 : Nat) "CallRounds$Call" "rung" "I") ∈ tG := tG_of 285 (by decide +kernel) rfl
theorem kw_286 : (Cond.fieldLink "CallRounds$News" (28 : Nat) "CallRounds$News" "rung" "I") ∈ tG := tG_of 286 (by decide +kernel) rfl
theorem kw_287 : (Cond.sameField "CallRounds$News" "CallRounds$Call" "rung" "I") ∈ tG := tG_of 287 (by decide +kernel) rfl
theorem kw_288 : (Cond.fieldLink "CallRounds" (153 : Nat) "CallRounds$Call" "rung" "I") ∈ tG := tG_of 288 (by decide +kernel) rfl
theorem kw_289 : (Cond.fieldLink "CallRounds$Alike" (47 : Nat) "CallRounds$Call" "rung" "I") ∈ tG := tG_of 289 (by decide +kernel) rfl
theorem kw_290 : (Cond.fieldLink "CallRounds$Call" (19 : Nat) "CallRounds$Call" "before" "J") ∈ tG := tG_of 290 (by decide +kernel) rfl
theorem kw_291 : (Cond.fieldLink "CallRounds" (162 : Nat) "CallRounds$Call" "before" "J") ∈ tG := tG_of 291 (by decide +kernel) rfl
theorem kw_292 : (Cond.fieldLink "CallRounds$Call" (23 : Nat) "CallRounds$Call" "after" "J") ∈ tG := tG_of 292 (by decide +kernel) rfl
theorem kw_293 : (Cond.fieldLink "CallRounds$Alike" (50 : Nat) "CallRounds$Call" "after" "J") ∈ tG := tG_of 293 (by decide +kernel) rfl
theorem kw_305 : (Cond.classLink "CallRounds" (298 : Nat) "CallRounds$Whole") ∈ tG := tG_of 305 (by decide +kernel) rfl
theorem kw_306 : (Cond.instantiable "CallRounds$Whole" (5 : Nat)) ∈ tG := tG_of 306 (by decide +kernel) rfl
theorem kw_307 : (Cond.methodLink "CallRounds" (300 : Nat) yX10_init) ∈ tG := tG_of 307 (by decide +kernel) rfl
theorem kw_308 : (Cond.instanceMethod yX10_init) ∈ tG := tG_of 308 (by decide +kernel) rfl
theorem kw_309 : (Cond.code yX10_init prog_12_method_1_code (8 : Nat) (Option.none : Option FieldType)) ∈ tG := tG_of 309 (by decide +kernel) rfl
theorem kw_310 : (Cond.methodLink "CallRounds$Whole" (1 : Nat) yX4_init) ∈ tG := tG_of 310 (by decide +kernel) rfl
theorem kw_311 : (Cond.instanceMethod yX4_init) ∈ tG := tG_of 311 (by decide +kernel) rfl
theorem kw_312 : (Cond.code yX4_init prog_6_method_1_code (8 : Nat) (Option.none : Option FieldType)) ∈ tG := tG_of 312 (by decide +kernel) rfl
theorem kw_313 : (Cond.methodLink "CallRounds$News" (1 : Nat) yX1_init) ∈ tG := tG_of 313 (by decide +kernel) rfl
theorem kw_320 : (Cond.classLink "CallRounds" (301 : Nat) "CallRounds$News") ∈ tG := tG_of 320 (by decide +kernel) rfl
theorem kw_321 : (Cond.instantiable "CallRounds$News" (5 : Nat)) ∈ tG := tG_of 321 (by decide +kernel) rfl
theorem kw_322 : (Cond.methodLink "CallRounds" (303 : Nat) yX4_init) ∈ tG := tG_of 322 (by decide +kernel) rfl
theorem kw_329 : (Cond.methodLink "CallRoundsLaw" (27 : Nat) yX11_ofCall) ∈ tG := tG_of 329 (by decide +kernel) rfl
theorem kw_330 : (Cond.instanceMethod yX11_ofCall) ∈ tG := tG_of 330 (by decide +kernel) rfl
theorem kw_331 : (Cond.selects "CallRounds" yX11_ofCall yX11_ofCall) ∈ tG := tG_of 331 (by decide +kernel) rfl
theorem kw_332 : (Cond.code yX11_ofCall prog_1_method_5_code (4 : Nat) (Option.some FieldType.int)) ∈ tG := tG_of 332 (by decide +kernel) rfl
theorem kw_333 : (Cond.methodLink "CallRounds" (142 : Nat) yX11_callAt) ∈ tG := tG_of 333 (by decide +kernel) rfl
theorem kw_335 : (Cond.instanceMethod yX11_callAt) ∈ tG := tG_of 335 (by decide +kernel) rfl
theorem kw_336 : (Cond.code yX11_callAt prog_1_method_41_code (2 : Nat) (Option.some (FieldType.object "CallRounds$Call"))) ∈ tG := tG_of 336 (by decide +kernel) rfl
theorem kw_337 : (Cond.methodLink "CallRounds" (146 : Nat) yX1_kind) ∈ tG := tG_of 337 (by decide +kernel) rfl
theorem kw_338 : (Cond.instanceMethod yX1_kind) ∈ tG := tG_of 338 (by decide +kernel) rfl
theorem kw_339 : (Cond.selects "CallRounds$Call" yX1_kind yX1_kind) ∈ tG := tG_of 339 (by decide +kernel) rfl
theorem kw_340 : (Cond.sameMethod "CallRounds$Call" "CallRounds$Call" "kind" "()I") ∈ tG := tG_of 340 (by decide +kernel) rfl
theorem kw_341 : (Cond.selects "CallRounds$News" yX1_kind yX4_kind) ∈ tG := tG_of 341 (by decide +kernel) rfl
theorem kw_342 : (Cond.instanceMethod yX4_kind) ∈ tG := tG_of 342 (by decide +kernel) rfl
theorem kw_343 : (Cond.code yX4_kind prog_6_method_2_code (1 : Nat) (Option.some FieldType.int)) ∈ tG := tG_of 343 (by decide +kernel) rfl
theorem kw_344 : (Cond.selects "CallRounds$Whole" yX1_kind yX10_kind) ∈ tG := tG_of 344 (by decide +kernel) rfl
theorem kw_345 : (Cond.instanceMethod yX10_kind) ∈ tG := tG_of 345 (by decide +kernel) rfl
theorem kw_346 : (Cond.code yX10_kind prog_12_method_2_code (1 : Nat) (Option.some FieldType.int)) ∈ tG := tG_of 346 (by decide +kernel) rfl
theorem kw_347 : (Cond.code yX1_kind prog_3_method_2_code (1 : Nat) (Option.some FieldType.int)) ∈ tG := tG_of 347 (by decide +kernel) rfl
theorem kw_348 : (Cond.methodLink "CallRounds" (156 : Nat) yX1_learntBy) ∈ tG := tG_of 348 (by decide +kernel) rfl
theorem kw_349 : (Cond.instanceMethod yX1_learntBy) ∈ tG := tG_of 349 (by decide +kernel) rfl
theorem kw_350 : (Cond.selects "CallRounds$Call" yX1_learntBy yX1_learntBy) ∈ tG := tG_of 350 (by decide +kernel) rfl
theorem kw_351 : (Cond.sameMethod "CallRounds$Call" "CallRounds$Call" "learntBy" "(I)I") ∈ tG := tG_of 351 (by decide +kernel) rfl
theorem kw_352 : (Cond.selects "CallRounds$News" yX1_learntBy yX1_learntBy) ∈ tG := tG_of 352 (by decide +kernel) rfl
theorem kw_353 : (Cond.selects "CallRounds$Whole" yX1_learntBy yX1_learntBy) ∈ tG := tG_of 353 (by decide +kernel) rfl
theorem kw_354 : (Cond.code yX1_learntBy prog_3_method_3_code (2 : Nat) (Option.some FieldType.int)) ∈ tG := tG_of 354 (by decide +kernel) rfl
theorem kw_355 : (Cond.methodLink "CallRounds$Call" (26 : Nat) yX5_secretsOf) ∈ tG := tG_of 355 (by decide +kernel) rfl
theorem kw_356 : (Cond.methodLink "CallRoundsLaw" (31 : Nat) yX11_back) ∈ tG := tG_of 356 (by decide +kernel) rfl
theorem kw_357 : (Cond.instanceMethod yX11_back) ∈ tG := tG_of 357 (by decide +kernel) rfl
theorem kw_358 : (Cond.selects "CallRounds" yX11_back yX11_back) ∈ tG := tG_of 358 (by decide +kernel) rfl
theorem kw_359 : (Cond.code yX11_back prog_1_method_6_code (2 : Nat) (Option.some FieldType.int)) ∈ tG := tG_of 359 (by decide +kernel) rfl
theorem kw_360 : (Cond.methodLink "CallRoundsLaw" (36 : Nat) yX11_may) ∈ tG := tG_of 360 (by decide +kernel) rfl
theorem kw_361 : (Cond.instanceMethod yX11_may) ∈ tG := tG_of 361 (by decide +kernel) rfl
theorem kw_362 : (Cond.selects "CallRounds" yX11_may yX11_may) ∈ tG := tG_of 362 (by decide +kernel) rfl
theorem kw_363 : (Cond.code yX11_may prog_1_method_7_code (3 : Nat) (Option.some FieldType.int)) ∈ tG := tG_of 363 (by decide +kernel) rfl
theorem kw_364 : (Cond.methodLink "CallRounds" (165 : Nat) yX11_isRule) ∈ tG := tG_of 364 (by decide +kernel) rfl
theorem kw_366 : (Cond.instanceMethod yX11_isRule) ∈ tG := tG_of 366 (by decide +kernel) rfl
theorem kw_367 : (Cond.code yX11_isRule prog_1_method_36_code (2 : Nat) (Option.some FieldType.boolean)) ∈ tG := tG_of 367 (by decide +kernel) rfl
theorem kw_368 : (Cond.methodLink "CallRounds" (168 : Nat) yX5_whomMay) ∈ tG := tG_of 368 (by decide +kernel) rfl
theorem kw_369 : (Cond.static yX5_whomMay) ∈ tG := tG_of 369 (by decide +kernel) rfl
theorem kw_370 : (Cond.code yX5_whomMay prog_7_method_14_code (9 : Nat) (Option.some FieldType.int)) ∈ tG := tG_of 370 (by decide +kernel) rfl
theorem kw_371 : (Cond.methodLink "CallRounds$Position" (40 : Nat) yX5_hasToken) ∈ tG := tG_of 371 (by decide +kernel) rfl
theorem kw_373 : (Cond.methodLink "CallRoundsLaw" (40 : Nat) yX11_runs) ∈ tG := tG_of 373 (by decide +kernel) rfl
theorem kw_374 : (Cond.instanceMethod yX11_runs) ∈ tG := tG_of 374 (by decide +kernel) rfl
theorem kw_375 : (Cond.selects "CallRounds" yX11_runs yX11_runs) ∈ tG := tG_of 375 (by decide +kernel) rfl
theorem kw_376 : (Cond.code yX11_runs prog_1_method_8_code (3 : Nat) (Option.some FieldType.long)) ∈ tG := tG_of 376 (by decide +kernel) rfl
theorem kw_377 : (Cond.methodLink "CallRounds" (172 : Nat) yX11_isEither) ∈ tG := tG_of 377 (by decide +kernel) rfl
theorem kw_379 : (Cond.instanceMethod yX11_isEither) ∈ tG := tG_of 379 (by decide +kernel) rfl
theorem kw_380 : (Cond.code yX11_isEither prog_1_method_38_code (2 : Nat) (Option.some FieldType.boolean)) ∈ tG := tG_of 380 (by decide +kernel) rfl
theorem kw_381 : (Cond.methodLink "CallRounds" (175 : Nat) yX11_noPersons) ∈ tG := tG_of 381 (by decide +kernel) rfl
theorem kw_383 : (Cond.instanceMethod yX11_noPersons) ∈ tG := tG_of 383 (by decide +kernel) rfl
theorem kw_384 : (Cond.code yX11_noPersons prog_1_method_40_code (1 : Nat) (Option.some FieldType.boolean)) ∈ tG := tG_of 384 (by decide +kernel) rfl
theorem kw_385 : (Cond.constantLong "CallRounds" (179 : Nat) (-9223372036854775808 : Int64)) ∈ tG := tG_of 385 (by decide +kernel) rfl
theorem kw_386 : (Cond.methodLink "CallRounds" (181 : Nat) yX6_all) ∈ tG := tG_of 386 (by decide +kernel) rfl
theorem kw_387 : (Cond.instanceMethod yX6_all) ∈ tG := tG_of 387 (by decide +kernel) rfl
theorem kw_388 : (Cond.selects "CallRounds$Runs" yX6_all yX6_all) ∈ tG := tG_of 388 (by decide +kernel) rfl
theorem kw_389 : (Cond.code yX6_all prog_8_method_2_code (5 : Nat) (Option.some FieldType.long)) ∈ tG := tG_of 389 (by decide +kernel) rfl
theorem kw_390 : (Cond.methodLink "CallRounds$Runs" (35 : Nat) yX6_count) ∈ tG := tG_of 390 (by decide +kernel) rfl
theorem kw_392 : (Cond.instanceMethod yX6_count) ∈ tG := tG_of 392 (by decide +kernel) rfl
theorem kw_393 : (Cond.code yX6_count prog_8_method_9_code (19 : Nat) (Option.some FieldType.int)) ∈ tG := tG_of 393 (by decide +kernel) rfl
theorem kw_394 : (Cond.methodLink "CallRounds$Runs" (67 : Nat) yX8_makeRoom) ∈ tG := tG_of 394 (by decide +kernel) rfl
theorem kw_395 : (Cond.instanceMethod yX8_makeRoom) ∈ tG := tG_of 395 (by decide +kernel) rfl
theorem kw_396 : (Cond.selects "CallRounds$Table" yX8_makeRoom yX8_makeRoom) ∈ tG := tG_of 396 (by decide +kernel) rfl
theorem kw_397 : (Cond.code yX8_makeRoom prog_10_method_2_code (1 : Nat) (Option.none : Option FieldType)) ∈ tG := tG_of 397 (by decide +kernel) rfl
theorem kw_398 : (Cond.methodLink "CallRounds$Table" (17 : Nat) yJ7_fill_d0a16) ∈ tG := tG_of 398 (by decide +kernel) rfl
theorem kw_399 : (Cond.static yJ7_fill_d0a16) ∈ tG := tG_of 399 (by decide +kernel) rfl
theorem kw_400 : (Cond.code yJ7_fill_d0a16 prog_18_method_101_code (5 : Nat) (Option.none : Option FieldType)) ∈ tG := tG_of 400 (by decide +kernel) rfl
theorem kw_401 : (Cond.methodLink "CallRounds$Runs" (70 : Nat) yX5_keyFor) ∈ tG := tG_of 401 (by decide +kernel) rfl
theorem kw_402 : (Cond.static yX5_keyFor) ∈ tG := tG_of 402 (by decide +kernel) rfl
theorem kw_403 : (Cond.code yX5_keyFor prog_7_method_16_code (6 : Nat) (Option.some FieldType.long)) ∈ tG := tG_of 403 (by decide +kernel) rfl
theorem kw_404 : (Cond.constantLong "CallRounds$Position" (53 : Nat) (-64424509441 : Int64)) ∈ tG := tG_of 404 (by decide +kernel) rfl
theorem kw_405 : (Cond.constantLong "CallRounds$Position" (55 : Nat) (-1030792151041 : Int64)) ∈ tG := tG_of 405 (by decide +kernel) rfl
theorem kw_406 : (Cond.methodLink "CallRounds$Runs" (73 : Nat) yX8_find) ∈ tG := tG_of 406 (by decide +kernel) rfl
theorem kw_407 : (Cond.instanceMethod yX8_find) ∈ tG := tG_of 407 (by decide +kernel) rfl
theorem kw_408 : (Cond.selects "CallRounds$Table" yX8_find yX8_find) ∈ tG := tG_of 408 (by decide +kernel) rfl
theorem kw_409 : (Cond.code yX8_find prog_10_method_3_code (4 : Nat) (Option.some FieldType.int)) ∈ tG := tG_of 409 (by decide +kernel) rfl
theorem kw_410 : (Cond.methodLink "CallRounds$Table" (23 : Nat) yX8_slotFor) ∈ tG := tG_of 410 (by decide +kernel) rfl
theorem kw_412 : (Cond.instanceMethod yX8_slotFor) ∈ tG := tG_of 412 (by decide +kernel) rfl
theorem kw_413 : (Cond.code yX8_slotFor prog_10_method_5_code (6 : Nat) (Option.some FieldType.int)) ∈ tG := tG_of 413 (by decide +kernel) rfl
theorem kw_414 : (Cond.constantLong "CallRounds$Table" (27 : Nat) (-7046029254386353131 : Int64)) ∈ tG := tG_of 414 (by decide +kernel) rfl
theorem kw_415 : (Cond.methodLink "CallRounds$Runs" (42 : Nat) yX5_persons) ∈ tG := tG_of 415 (by decide +kernel) rfl
theorem kw_416 : (Cond.methodLink "CallRounds$Runs" (48 : Nat) yX5_whomMay) ∈ tG := tG_of 416 (by decide +kernel) rfl
theorem kw_418 : (Cond.methodLink "CallRounds$Runs" (55 : Nat) yX5_ring) ∈ tG := tG_of 418 (by decide +kernel) rfl
theorem kw_419 : (Cond.methodLink "CallRounds$Runs" (76 : Nat) yJ9_min_7cf53) ∈ tG := tG_of 419 (by decide +kernel) rfl
theorem kw_420 : (Cond.static yJ9_min_7cf53) ∈ tG := tG_of 420 (by decide +kernel) rfl
theorem kw_421 : (Cond.code yJ9_min_7cf53 prog_16_method_69_code (2 : Nat) (Option.some FieldType.int)) ∈ tG := tG_of 421 (by decide +kernel) rfl
theorem kw_422 : (Cond.methodLink "CallRounds$Runs" (81 : Nat) yJ9_max_7cf53) ∈ tG := tG_of 422 (by decide +kernel) rfl
theorem kw_423 : (Cond.static yJ9_max_7cf53) ∈ tG := tG_of 423 (by decide +kernel) rfl
theorem kw_424 : (Cond.code yJ9_max_7cf53 prog_16_method_65_code (2 : Nat) (Option.some FieldType.int)) ∈ tG := tG_of 424 (by decide +kernel) rfl
theorem kw_425 : (Cond.methodLink "CallRounds$Runs" (84 : Nat) yX6_keep) ∈ tG := tG_of 425 (by decide +kernel) rfl
theorem kw_427 : (Cond.instanceMethod yX6_keep) ∈ tG := tG_of 427 (by decide +kernel) rfl
theorem kw_428 : (Cond.code yX6_keep prog_8_method_10_code (10 : Nat) (Option.some FieldType.int)) ∈ tG := tG_of 428 (by decide +kernel) rfl
theorem kw_429 : (Cond.methodLink "CallRounds$Runs" (96 : Nat) yX8_take) ∈ tG := tG_of 429 (by decide +kernel) rfl
theorem kw_430 : (Cond.instanceMethod yX8_take) ∈ tG := tG_of 430 (by decide +kernel) rfl
theorem kw_431 : (Cond.selects "CallRounds$Table" yX8_take yX8_take) ∈ tG := tG_of 431 (by decide +kernel) rfl
theorem kw_432 : (Cond.code yX8_take prog_10_method_4_code (4 : Nat) (Option.some FieldType.int)) ∈ tG := tG_of 432 (by decide +kernel) rfl
theorem kw_433 : (Cond.methodLink "CallRounds$Runs" (88 : Nat) yX5_allAreExperts) ∈ tG := tG_of 433 (by decide +kernel) rfl
theorem kw_434 : (Cond.static yX5_allAreExperts) ∈ tG := tG_of 434 (by decide +kernel) rfl
theorem kw_435 : (Cond.code yX5_allAreExperts prog_7_method_13_code (3 : Nat) (Option.some FieldType.boolean)) ∈ tG := tG_of 435 (by decide +kernel) rfl
theorem kw_436 : (Cond.methodLink "CallRounds$Position" (31 : Nat) yX5_allSecrets) ∈ tG := tG_of 436 (by decide +kernel) rfl
theorem kw_437 : (Cond.static yX5_allSecrets) ∈ tG := tG_of 437 (by decide +kernel) rfl
theorem kw_438 : (Cond.code yX5_allSecrets prog_7_method_4_code (2 : Nat) (Option.some FieldType.int)) ∈ tG := tG_of 438 (by decide +kernel) rfl
theorem kw_439 : (Cond.constant "CallRounds$Position" (15 : Nat) (65535 : Int32)) ∈ tG := tG_of 439 (by decide +kernel) rfl
theorem kw_440 : (Cond.methodLink "CallRounds$Position" (34 : Nat) yJ6_bitCount_0f7a4) ∈ tG := tG_of 440 (by decide +kernel) rfl
theorem kw_441 : (Cond.static yJ6_bitCount_0f7a4) ∈ tG := tG_of 441 (by decide +kernel) rfl
theorem kw_442 : (Cond.code yJ6_bitCount_0f7a4 prog_15_method_49_code (1 : Nat) (Option.some FieldType.int)) ∈ tG := tG_of 442 (by decide +kernel) rfl
theorem kw_443 : (Cond.constant "java/lang/Integer" (265 : Nat) (1431655765 : Int32)) ∈ tG := tG_of 443 (by decide +kernel) rfl
theorem kw_444 : (Cond.constant "java/lang/Integer" (266 : Nat) (858993459 : Int32)) ∈ tG := tG_of 444 (by decide +kernel) rfl
theorem kw_445 : (Cond.constant "java/lang/Integer" (267 : Nat) (252645135 : Int32)) ∈ tG := tG_of 445 (by decide +kernel) rfl
theorem kw_447 : (Cond.methodLink "CallRounds" (185 : Nat) yX6_good) ∈ tG := tG_of 447 (by decide +kernel) rfl
theorem kw_448 : (Cond.instanceMethod yX6_good) ∈ tG := tG_of 448 (by decide +kernel) rfl
theorem kw_449 : (Cond.selects "CallRounds$Runs" yX6_good yX6_good) ∈ tG := tG_of 449 (by decide +kernel) rfl
theorem kw_450 : (Cond.code yX6_good prog_8_method_3_code (5 : Nat) (Option.some FieldType.long)) ∈ tG := tG_of 450 (by decide +kernel) rfl
theorem kw_451 : (Cond.methodLink "CallRoundsLaw" (45 : Nat) yX11_verdict) ∈ tG := tG_of 451 (by decide +kernel) rfl
theorem kw_452 : (Cond.instanceMethod yX11_verdict) ∈ tG := tG_of 452 (by decide +kernel) rfl
theorem kw_453 : (Cond.selects "CallRounds" yX11_verdict yX11_verdict) ∈ tG := tG_of 453 (by decide +kernel) rfl
theorem kw_454 : (Cond.code yX11_verdict prog_1_method_9_code (2 : Nat) (Option.some FieldType.int)) ∈ tG := tG_of 454 (by decide +kernel) rfl
theorem kw_455 : (Cond.methodLink "CallRounds" (188 : Nat) yX6_judge) ∈ tG := tG_of 455 (by decide +kernel) rfl
theorem kw_456 : (Cond.instanceMethod yX6_judge) ∈ tG := tG_of 456 (by decide +kernel) rfl
theorem kw_457 : (Cond.selects "CallRounds$Runs" yX6_judge yX6_judge) ∈ tG := tG_of 457 (by decide +kernel) rfl
theorem kw_458 : (Cond.code yX6_judge prog_8_method_6_code (5 : Nat) (Option.some FieldType.int)) ∈ tG := tG_of 458 (by decide +kernel) rfl
theorem kw_459 : (Cond.methodLink "CallRoundsLaw" (50 : Nat) yX11_calls) ∈ tG := tG_of 459 (by decide +kernel) rfl
theorem kw_460 : (Cond.instanceMethod yX11_calls) ∈ tG := tG_of 460 (by decide +kernel) rfl
theorem kw_461 : (Cond.selects "CallRounds" yX11_calls yX11_calls) ∈ tG := tG_of 461 (by decide +kernel) rfl
theorem kw_462 : (Cond.code yX11_calls prog_1_method_10_code (3 : Nat) (Option.some FieldType.int)) ∈ tG := tG_of 462 (by decide +kernel) rfl
theorem kw_463 : (Cond.methodLink "CallRounds" (191 : Nat) yX6_fewest) ∈ tG := tG_of 463 (by decide +kernel) rfl
theorem kw_464 : (Cond.instanceMethod yX6_fewest) ∈ tG := tG_of 464 (by decide +kernel) rfl
theorem kw_465 : (Cond.selects "CallRounds$Runs" yX6_fewest yX6_fewest) ∈ tG := tG_of 465 (by decide +kernel) rfl
theorem kw_466 : (Cond.code yX6_fewest prog_8_method_4_code (5 : Nat) (Option.some FieldType.int)) ∈ tG := tG_of 466 (by decide +kernel) rfl
theorem kw_467 : (Cond.methodLink "CallRounds" (194 : Nat) yX6_most) ∈ tG := tG_of 467 (by decide +kernel) rfl
theorem kw_468 : (Cond.instanceMethod yX6_most) ∈ tG := tG_of 468 (by decide +kernel) rfl
theorem kw_469 : (Cond.selects "CallRounds$Runs" yX6_most yX6_most) ∈ tG := tG_of 469 (by decide +kernel) rfl
theorem kw_470 : (Cond.code yX6_most prog_8_method_5_code (5 : Nat) (Option.some FieldType.int)) ∈ tG := tG_of 470 (by decide +kernel) rfl
theorem kw_471 : (Cond.methodLink "CallRoundsLaw" (54 : Nat) yX11_keeps) ∈ tG := tG_of 471 (by decide +kernel) rfl
theorem kw_472 : (Cond.instanceMethod yX11_keeps) ∈ tG := tG_of 472 (by decide +kernel) rfl
theorem kw_473 : (Cond.selects "CallRounds" yX11_keeps yX11_keeps) ∈ tG := tG_of 473 (by decide +kernel) rfl
theorem kw_474 : (Cond.code yX11_keeps prog_1_method_11_code (4 : Nat) (Option.some FieldType.int)) ∈ tG := tG_of 474 (by decide +kernel) rfl
theorem kw_475 : (Cond.methodLink "CallRoundsLaw" (59 : Nat) yX11_best) ∈ tG := tG_of 475 (by decide +kernel) rfl
theorem kw_476 : (Cond.instanceMethod yX11_best) ∈ tG := tG_of 476 (by decide +kernel) rfl
theorem kw_477 : (Cond.selects "CallRounds" yX11_best yX11_best) ∈ tG := tG_of 477 (by decide +kernel) rfl
theorem kw_478 : (Cond.code yX11_best prog_1_method_12_code (4 : Nat) (Option.some FieldType.int)) ∈ tG := tG_of 478 (by decide +kernel) rfl
theorem kw_479 : (Cond.methodLink "CallRounds" (197 : Nat) yX6_bestPair) ∈ tG := tG_of 479 (by decide +kernel) rfl
theorem kw_480 : (Cond.instanceMethod yX6_bestPair) ∈ tG := tG_of 480 (by decide +kernel) rfl
theorem kw_481 : (Cond.selects "CallRounds$Runs" yX6_bestPair yX6_bestPair) ∈ tG := tG_of 481 (by decide +kernel) rfl
theorem kw_482 : (Cond.code yX6_bestPair prog_8_method_7_code (9 : Nat) (Option.some FieldType.int)) ∈ tG := tG_of 482 (by decide +kernel) rfl
theorem kw_483 : (Cond.methodLink "CallRounds$Runs" (39 : Nat) yX6_fewest) ∈ tG := tG_of 483 (by decide +kernel) rfl
theorem kw_485 : (Cond.methodLink "CallRounds" (200 : Nat) yX11_ringerOf) ∈ tG := tG_of 485 (by decide +kernel) rfl
theorem kw_486 : (Cond.static yX11_ringerOf) ∈ tG := tG_of 486 (by decide +kernel) rfl
theorem kw_487 : (Cond.code yX11_ringerOf prog_1_method_52_code (1 : Nat) (Option.some FieldType.int)) ∈ tG := tG_of 487 (by decide +kernel) rfl
theorem kw_488 : (Cond.methodLink "CallRounds" (203 : Nat) yX11_rungOf) ∈ tG := tG_of 488 (by decide +kernel) rfl
theorem kw_489 : (Cond.static yX11_rungOf) ∈ tG := tG_of 489 (by decide +kernel) rfl
theorem kw_490 : (Cond.code yX11_rungOf prog_1_method_53_code (1 : Nat) (Option.some FieldType.int)) ∈ tG := tG_of 490 (by decide +kernel) rfl
theorem kw_491 : (Cond.methodLink "CallRoundsLaw" (63 : Nat) yX11_alike) ∈ tG := tG_of 491 (by decide +kernel) rfl
theorem kw_492 : (Cond.instanceMethod yX11_alike) ∈ tG := tG_of 492 (by decide +kernel) rfl
theorem kw_493 : (Cond.selects "CallRounds" yX11_alike yX11_alike) ∈ tG := tG_of 493 (by decide +kernel) rfl
theorem kw_494 : (Cond.code yX11_alike prog_1_method_13_code (2 : Nat) (Option.some FieldType.int)) ∈ tG := tG_of 494 (by decide +kernel) rfl
theorem kw_495 : (Cond.methodLink "CallRounds" (206 : Nat) yX0_rowsFor) ∈ tG := tG_of 495 (by decide +kernel) rfl
theorem kw_496 : (Cond.instanceMethod yX0_rowsFor) ∈ tG := tG_of 496 (by decide +kernel) rfl
theorem kw_497 : (Cond.selects "CallRounds$Alike" yX0_rowsFor yX0_rowsFor) ∈ tG := tG_of 497 (by decide +kernel) rfl
theorem kw_498 : (Cond.code yX0_rowsFor prog_2_method_3_code (6 : Nat) (Option.some FieldType.int)) ∈ tG := tG_of 498 (by decide +kernel) rfl
theorem kw_499 : (Cond.methodLink "CallRounds$Alike" (25 : Nat) yX0_find) ∈ tG := tG_of 499 (by decide +kernel) rfl
theorem kw_501 : (Cond.instanceMethod yX0_find) ∈ tG := tG_of 501 (by decide +kernel) rfl
theorem kw_502 : (Cond.code yX0_find prog_2_method_5_code (8 : Nat) (Option.none : Option FieldType)) ∈ tG := tG_of 502 (by decide +kernel) rfl
theorem kw_504 : (Cond.methodLink "CallRounds$Alike" (33 : Nat) yJ9_min_7cf53) ∈ tG := tG_of 504 (by decide +kernel) rfl
theorem kw_505 : (Cond.methodLink "CallRounds$Alike" (54 : Nat) yX0_sight) ∈ tG := tG_of 505 (by decide +kernel) rfl
theorem kw_506 : (Cond.static yX0_sight) ∈ tG := tG_of 506 (by decide +kernel) rfl
theorem kw_507 : (Cond.code yX0_sight prog_2_method_7_code (5 : Nat) (Option.some FieldType.int)) ∈ tG := tG_of 507 (by decide +kernel) rfl
theorem kw_508 : (Cond.methodLink "CallRounds$Alike" (80 : Nat) yX5_secretsOf) ∈ tG := tG_of 508 (by decide +kernel) rfl
theorem kw_510 : (Cond.constant "CallRounds$Alike" (58 : Nat) (65535 : Int32)) ∈ tG := tG_of 510 (by decide +kernel) rfl
theorem kw_511 : (Cond.methodLink "CallRounds$Alike" (59 : Nat) yX0_follow) ∈ tG := tG_of 511 (by decide +kernel) rfl
theorem kw_513 : (Cond.instanceMethod yX0_follow) ∈ tG := tG_of 513 (by decide +kernel) rfl
theorem kw_514 : (Cond.code yX0_follow prog_2_method_6_code (11 : Nat) (Option.none : Option FieldType)) ∈ tG := tG_of 514 (by decide +kernel) rfl
theorem kw_515 : (Cond.methodLink "CallRounds$Alike" (63 : Nat) yX5_allSecrets) ∈ tG := tG_of 515 (by decide +kernel) rfl
theorem kw_516 : (Cond.methodLink "CallRounds$Alike" (69 : Nat) yX5_persons) ∈ tG := tG_of 516 (by decide +kernel) rfl
theorem kw_517 : (Cond.methodLink "CallRounds$Alike" (72 : Nat) yX5_numbersOf) ∈ tG := tG_of 517 (by decide +kernel) rfl
theorem kw_518 : (Cond.methodLink "CallRounds$Alike" (76 : Nat) yX5_ring) ∈ tG := tG_of 518 (by decide +kernel) rfl
theorem kw_519 : (Cond.methodLink "CallRoundsLaw" (67 : Nat) yX11_sure) ∈ tG := tG_of 519 (by decide +kernel) rfl
theorem kw_520 : (Cond.instanceMethod yX11_sure) ∈ tG := tG_of 520 (by decide +kernel) rfl
theorem kw_521 : (Cond.selects "CallRounds" yX11_sure yX11_sure) ∈ tG := tG_of 521 (by decide +kernel) rfl
theorem kw_522 : (Cond.code yX11_sure prog_1_method_14_code (4 : Nat) (Option.some FieldType.int)) ∈ tG := tG_of 522 (by decide +kernel) rfl
theorem kw_523 : (Cond.methodLink "CallRounds" (210 : Nat) yX11_surelyHad) ∈ tG := tG_of 523 (by decide +kernel) rfl
theorem kw_525 : (Cond.instanceMethod yX11_surelyHad) ∈ tG := tG_of 525 (by decide +kernel) rfl
theorem kw_526 : (Cond.code yX11_surelyHad prog_1_method_46_code (3 : Nat) (Option.some FieldType.int)) ∈ tG := tG_of 526 (by decide +kernel) rfl
theorem kw_527 : (Cond.methodLink "CallRounds" (304 : Nat) yX0_sureSecretsFor) ∈ tG := tG_of 527 (by decide +kernel) rfl
theorem kw_528 : (Cond.instanceMethod yX0_sureSecretsFor) ∈ tG := tG_of 528 (by decide +kernel) rfl
theorem kw_529 : (Cond.selects "CallRounds$Alike" yX0_sureSecretsFor yX0_sureSecretsFor) ∈ tG := tG_of 529 (by decide +kernel) rfl
theorem kw_530 : (Cond.code yX0_sureSecretsFor prog_2_method_4_code (6 : Nat) (Option.some FieldType.int)) ∈ tG := tG_of 530 (by decide +kernel) rfl
theorem kw_531 : (Cond.methodLink "CallRounds" (307 : Nat) yX5_partOf) ∈ tG := tG_of 531 (by decide +kernel) rfl
theorem kw_532 : (Cond.static yX5_partOf) ∈ tG := tG_of 532 (by decide +kernel) rfl
theorem kw_533 : (Cond.code yX5_partOf prog_7_method_6_code (2 : Nat) (Option.some FieldType.int)) ∈ tG := tG_of 533 (by decide +kernel) rfl
theorem kw_534 : (Cond.methodLink "CallRoundsLaw" (71 : Nat) yX11_known) ∈ tG := tG_of 534 (by decide +kernel) rfl
theorem kw_535 : (Cond.instanceMethod yX11_known) ∈ tG := tG_of 535 (by decide +kernel) rfl
theorem kw_536 : (Cond.selects "CallRounds" yX11_known yX11_known) ∈ tG := tG_of 536 (by decide +kernel) rfl
theorem kw_537 : (Cond.code yX11_known prog_1_method_15_code (3 : Nat) (Option.some FieldType.int)) ∈ tG := tG_of 537 (by decide +kernel) rfl
theorem kw_538 : (Cond.methodLink "CallRoundsLaw" (75 : Nat) yX11_end) ∈ tG := tG_of 538 (by decide +kernel) rfl
theorem kw_539 : (Cond.instanceMethod yX11_end) ∈ tG := tG_of 539 (by decide +kernel) rfl
theorem kw_540 : (Cond.selects "CallRounds" yX11_end yX11_end) ∈ tG := tG_of 540 (by decide +kernel) rfl
theorem kw_541 : (Cond.code yX11_end prog_1_method_16_code (4 : Nat) (Option.some FieldType.int)) ∈ tG := tG_of 541 (by decide +kernel) rfl
theorem kw_542 : (Cond.methodLink "CallRounds" (217 : Nat) yX5_everySecret) ∈ tG := tG_of 542 (by decide +kernel) rfl
theorem kw_543 : (Cond.methodLink "CallRoundsLaw" (79 : Nat) yX11_joined) ∈ tG := tG_of 543 (by decide +kernel) rfl
theorem kw_544 : (Cond.instanceMethod yX11_joined) ∈ tG := tG_of 544 (by decide +kernel) rfl
theorem kw_545 : (Cond.selects "CallRounds" yX11_joined yX11_joined) ∈ tG := tG_of 545 (by decide +kernel) rfl
theorem kw_546 : (Cond.code yX11_joined prog_1_method_17_code (1 : Nat) (Option.some FieldType.int)) ∈ tG := tG_of 546 (by decide +kernel) rfl
theorem kw_547 : (Cond.methodLink "CallRounds" (220 : Nat) yX5_allNumbers) ∈ tG := tG_of 547 (by decide +kernel) rfl
theorem kw_548 : (Cond.static yX5_allNumbers) ∈ tG := tG_of 548 (by decide +kernel) rfl
theorem kw_549 : (Cond.code yX5_allNumbers prog_7_method_5_code (2 : Nat) (Option.some FieldType.int)) ∈ tG := tG_of 549 (by decide +kernel) rfl
theorem kw_550 : (Cond.methodLink "CallRounds" (223 : Nat) yX2_isJoined) ∈ tG := tG_of 550 (by decide +kernel) rfl
theorem kw_551 : (Cond.static yX2_isJoined) ∈ tG := tG_of 551 (by decide +kernel) rfl
theorem kw_552 : (Cond.code yX2_isJoined prog_4_method_3_code (5 : Nat) (Option.some FieldType.boolean)) ∈ tG := tG_of 552 (by decide +kernel) rfl
theorem kw_555 : (Cond.methodLink "CallRounds$Net" (17 : Nat) yX2_reach) ∈ tG := tG_of 555 (by decide +kernel) rfl
theorem kw_556 : (Cond.static yX2_reach) ∈ tG := tG_of 556 (by decide +kernel) rfl
theorem kw_557 : (Cond.code yX2_reach prog_4_method_6_code (6 : Nat) (Option.some FieldType.int)) ∈ tG := tG_of 557 (by decide +kernel) rfl
theorem kw_558 : (Cond.methodLink "CallRounds$Net" (26 : Nat) yX5_partOf) ∈ tG := tG_of 558 (by decide +kernel) rfl
theorem kw_559 : (Cond.methodLink "CallRoundsLaw" (83 : Nat) yX11_bridge) ∈ tG := tG_of 559 (by decide +kernel) rfl
theorem kw_560 : (Cond.instanceMethod yX11_bridge) ∈ tG := tG_of 560 (by decide +kernel) rfl
theorem kw_561 : (Cond.selects "CallRounds" yX11_bridge yX11_bridge) ∈ tG := tG_of 561 (by decide +kernel) rfl
theorem kw_562 : (Cond.code yX11_bridge prog_1_method_18_code (4 : Nat) (Option.some FieldType.int)) ∈ tG := tG_of 562 (by decide +kernel) rfl
theorem kw_563 : (Cond.methodLink "CallRounds" (228 : Nat) yX11_isPlaceOfNumber) ∈ tG := tG_of 563 (by decide +kernel) rfl
theorem kw_565 : (Cond.instanceMethod yX11_isPlaceOfNumber) ∈ tG := tG_of 565 (by decide +kernel) rfl
theorem kw_566 : (Cond.code yX11_isPlaceOfNumber prog_1_method_39_code (2 : Nat) (Option.some FieldType.boolean)) ∈ tG := tG_of 566 (by decide +kernel) rfl
theorem kw_567 : (Cond.methodLink "CallRounds" (231 : Nat) yX2_bridges) ∈ tG := tG_of 567 (by decide +kernel) rfl
theorem kw_568 : (Cond.static yX2_bridges) ∈ tG := tG_of 568 (by decide +kernel) rfl
theorem kw_569 : (Cond.code yX2_bridges prog_4_method_4_code (6 : Nat) (Option.some FieldType.int)) ∈ tG := tG_of 569 (by decide +kernel) rfl
theorem kw_570 : (Cond.methodLink "CallRounds$Net" (23 : Nat) yX2_isJoined) ∈ tG := tG_of 570 (by decide +kernel) rfl
theorem kw_571 : (Cond.methodLink "CallRounds" (234 : Nat) yX11_countOrPick) ∈ tG := tG_of 571 (by decide +kernel) rfl
theorem kw_572 : (Cond.static yX11_countOrPick) ∈ tG := tG_of 572 (by decide +kernel) rfl
theorem kw_573 : (Cond.code yX11_countOrPick prog_1_method_54_code (4 : Nat) (Option.some FieldType.int)) ∈ tG := tG_of 573 (by decide +kernel) rfl
theorem kw_574 : (Cond.methodLink "CallRounds" (287 : Nat) yJ6_bitCount_0f7a4) ∈ tG := tG_of 574 (by decide +kernel) rfl
theorem kw_575 : (Cond.methodLink "CallRoundsLaw" (87 : Nat) yX11_sun) ∈ tG := tG_of 575 (by decide +kernel) rfl
theorem kw_576 : (Cond.instanceMethod yX11_sun) ∈ tG := tG_of 576 (by decide +kernel) rfl
theorem kw_577 : (Cond.selects "CallRounds" yX11_sun yX11_sun) ∈ tG := tG_of 577 (by decide +kernel) rfl
theorem kw_578 : (Cond.code yX11_sun prog_1_method_19_code (1 : Nat) (Option.some FieldType.int)) ∈ tG := tG_of 578 (by decide +kernel) rfl
theorem kw_579 : (Cond.methodLink "CallRounds" (237 : Nat) yX2_isSun) ∈ tG := tG_of 579 (by decide +kernel) rfl
theorem kw_580 : (Cond.static yX2_isSun) ∈ tG := tG_of 580 (by decide +kernel) rfl
theorem kw_581 : (Cond.code yX2_isSun prog_4_method_5_code (4 : Nat) (Option.some FieldType.boolean)) ∈ tG := tG_of 581 (by decide +kernel) rfl
theorem kw_582 : (Cond.methodLink "CallRoundsLaw" (91 : Nat) yX11_mend) ∈ tG := tG_of 582 (by decide +kernel) rfl
theorem kw_583 : (Cond.instanceMethod yX11_mend) ∈ tG := tG_of 583 (by decide +kernel) rfl
theorem kw_584 : (Cond.selects "CallRounds" yX11_mend yX11_mend) ∈ tG := tG_of 584 (by decide +kernel) rfl
theorem kw_585 : (Cond.code yX11_mend prog_1_method_20_code (3 : Nat) (Option.some FieldType.int)) ∈ tG := tG_of 585 (by decide +kernel) rfl
theorem kw_586 : (Cond.methodLink "CallRounds" (243 : Nat) yX11_findMending) ∈ tG := tG_of 586 (by decide +kernel) rfl
theorem kw_588 : (Cond.instanceMethod yX11_findMending) ∈ tG := tG_of 588 (by decide +kernel) rfl
theorem kw_589 : (Cond.code yX11_findMending prog_1_method_47_code (8 : Nat) (Option.some FieldType.int)) ∈ tG := tG_of 589 (by decide +kernel) rfl
theorem kw_590 : (Cond.methodLink "CallRounds" (310 : Nat) yX11_pairOf) ∈ tG := tG_of 590 (by decide +kernel) rfl
theorem kw_591 : (Cond.methodLink "CallRoundsLaw" (95 : Nat) yX11_nets) ∈ tG := tG_of 591 (by decide +kernel) rfl
theorem kw_592 : (Cond.instanceMethod yX11_nets) ∈ tG := tG_of 592 (by decide +kernel) rfl
theorem kw_593 : (Cond.selects "CallRounds" yX11_nets yX11_nets) ∈ tG := tG_of 593 (by decide +kernel) rfl
theorem kw_594 : (Cond.code yX11_nets prog_1_method_21_code (5 : Nat) (Option.some FieldType.int)) ∈ tG := tG_of 594 (by decide +kernel) rfl
theorem kw_595 : (Cond.methodLink "CallRounds" (249 : Nat) yX11_countNets) ∈ tG := tG_of 595 (by decide +kernel) rfl
theorem kw_597 : (Cond.instanceMethod yX11_countNets) ∈ tG := tG_of 597 (by decide +kernel) rfl
theorem kw_598 : (Cond.code yX11_countNets prog_1_method_48_code (7 : Nat) (Option.none : Option FieldType)) ∈ tG := tG_of 598 (by decide +kernel) rfl
theorem kw_599 : (Cond.methodLink "CallRounds" (313 : Nat) yX2_chosen) ∈ tG := tG_of 599 (by decide +kernel) rfl
theorem kw_600 : (Cond.static yX2_chosen) ∈ tG := tG_of 600 (by decide +kernel) rfl
theorem kw_601 : (Cond.code yX2_chosen prog_4_method_2_code (6 : Nat) (Option.some FieldType.int)) ∈ tG := tG_of 601 (by decide +kernel) rfl
theorem kw_602 : (Cond.methodLink "CallRoundsLaw" (99 : Nat) yX11_within) ∈ tG := tG_of 602 (by decide +kernel) rfl
theorem kw_603 : (Cond.instanceMethod yX11_within) ∈ tG := tG_of 603 (by decide +kernel) rfl
theorem kw_604 : (Cond.selects "CallRounds" yX11_within yX11_within) ∈ tG := tG_of 604 (by decide +kernel) rfl
theorem kw_605 : (Cond.code yX11_within prog_1_method_22_code (3 : Nat) (Option.some FieldType.int)) ∈ tG := tG_of 605 (by decide +kernel) rfl
theorem kw_606 : (Cond.methodLink "CallRounds" (253 : Nat) yX6_areWithin) ∈ tG := tG_of 606 (by decide +kernel) rfl
theorem kw_607 : (Cond.instanceMethod yX6_areWithin) ∈ tG := tG_of 607 (by decide +kernel) rfl
theorem kw_608 : (Cond.selects "CallRounds$Runs" yX6_areWithin yX6_areWithin) ∈ tG := tG_of 608 (by decide +kernel) rfl
theorem kw_609 : (Cond.code yX6_areWithin prog_8_method_8_code (5 : Nat) (Option.some FieldType.boolean)) ∈ tG := tG_of 609 (by decide +kernel) rfl
theorem kw_610 : (Cond.methodLink "CallRounds$Runs" (63 : Nat) yX6_include) ∈ tG := tG_of 610 (by decide +kernel) rfl
theorem kw_612 : (Cond.instanceMethod yX6_include) ∈ tG := tG_of 612 (by decide +kernel) rfl
theorem kw_613 : (Cond.code yX6_include prog_8_method_11_code (12 : Nat) (Option.some FieldType.boolean)) ∈ tG := tG_of 613 (by decide +kernel) rfl
theorem kw_614 : (Cond.methodLink "CallRoundsLaw" (103 : Nat) yX11_sheet) ∈ tG := tG_of 614 (by decide +kernel) rfl
theorem kw_615 : (Cond.instanceMethod yX11_sheet) ∈ tG := tG_of 615 (by decide +kernel) rfl
theorem kw_616 : (Cond.selects "CallRounds" yX11_sheet yX11_sheet) ∈ tG := tG_of 616 (by decide +kernel) rfl
theorem kw_617 : (Cond.code yX11_sheet prog_1_method_23_code (4 : Nat) (Option.some FieldType.int)) ∈ tG := tG_of 617 (by decide +kernel) rfl
theorem kw_618 : (Cond.instantiable "CallRounds$Sheet" (2 : Nat)) ∈ tG := tG_of 618 (by decide +kernel) rfl
theorem kw_619 : (Cond.methodLink "CallRounds" (256 : Nat) yX7_init) ∈ tG := tG_of 619 (by decide +kernel) rfl
theorem kw_620 : (Cond.instanceMethod yX7_init) ∈ tG := tG_of 620 (by decide +kernel) rfl
theorem kw_621 : (Cond.code yX7_init prog_9_method_1_code (3 : Nat) (Option.none : Option FieldType)) ∈ tG := tG_of 621 (by decide +kernel) rfl
theorem kw_622 : (Cond.methodLink "CallRounds$Sheet" (1 : Nat) ⟨"java/lang/Object", "<init>", "()V"⟩) ∈ tG := tG_of 622 (by decide +kernel) rfl
theorem kw_623 : (Cond.fieldLink "CallRounds$Sheet" (7 : Nat) "CallRounds$Sheet" "lane" "I") ∈ tG := tG_of 623 (by decide +kernel) rfl
theorem kw_624 : (Cond.fieldLink "CallRounds" (66 : Nat) "CallRounds$Sheet" "lane" "I") ∈ tG := tG_of 624 (by decide +kernel) rfl
theorem kw_625 : (Cond.fieldLink "CallRounds$Sheet" (13 : Nat) "CallRounds$Sheet" "cells" "[I") ∈ tG := tG_of 625 (by decide +kernel) rfl
theorem kw_626 : (Cond.fieldLink "CallRounds" (265 : Nat) "CallRounds$Sheet" "cells" "[I") ∈ tG := tG_of 626 (by decide +kernel) rfl
theorem kw_632 : (Cond.methodLink "CallRoundsLaw" (107 : Nat) yX11_lose) ∈ tG := tG_of 632 (by decide +kernel) rfl
theorem kw_633 : (Cond.instanceMethod yX11_lose) ∈ tG := tG_of 633 (by decide +kernel) rfl
theorem kw_634 : (Cond.selects "CallRounds" yX11_lose yX11_lose) ∈ tG := tG_of 634 (by decide +kernel) rfl
theorem kw_635 : (Cond.code yX11_lose prog_1_method_24_code (2 : Nat) (Option.some FieldType.int)) ∈ tG := tG_of 635 (by decide +kernel) rfl
theorem kw_636 : (Cond.methodLink "CallRoundsLaw" (111 : Nat) yX11_put) ∈ tG := tG_of 636 (by decide +kernel) rfl
theorem kw_637 : (Cond.instanceMethod yX11_put) ∈ tG := tG_of 637 (by decide +kernel) rfl
theorem kw_638 : (Cond.selects "CallRounds" yX11_put yX11_put) ∈ tG := tG_of 638 (by decide +kernel) rfl
theorem kw_639 : (Cond.code yX11_put prog_1_method_25_code (5 : Nat) (Option.some FieldType.int)) ∈ tG := tG_of 639 (by decide +kernel) rfl
theorem kw_640 : (Cond.methodLink "CallRounds" (259 : Nat) yX7_set) ∈ tG := tG_of 640 (by decide +kernel) rfl
theorem kw_641 : (Cond.instanceMethod yX7_set) ∈ tG := tG_of 641 (by decide +kernel) rfl
theorem kw_642 : (Cond.selects "CallRounds$Sheet" yX7_set yX7_set) ∈ tG := tG_of 642 (by decide +kernel) rfl
theorem kw_643 : (Cond.code yX7_set prog_9_method_4_code (3 : Nat) (Option.none : Option FieldType)) ∈ tG := tG_of 643 (by decide +kernel) rfl
theorem kw_644 : (Cond.methodLink "CallRounds$Sheet" (21 : Nat) yX7_cut) ∈ tG := tG_of 644 (by decide +kernel) rfl
theorem kw_646 : (Cond.instanceMethod yX7_cut) ∈ tG := tG_of 646 (by decide +kernel) rfl
theorem kw_647 : (Cond.code yX7_cut prog_9_method_5_code (2 : Nat) (Option.some FieldType.int)) ∈ tG := tG_of 647 (by decide +kernel) rfl
theorem kw_648 : (Cond.methodLink "CallRoundsLaw" (115 : Nat) yX11_cell) ∈ tG := tG_of 648 (by decide +kernel) rfl
theorem kw_649 : (Cond.instanceMethod yX11_cell) ∈ tG := tG_of 649 (by decide +kernel) rfl
theorem kw_650 : (Cond.selects "CallRounds" yX11_cell yX11_cell) ∈ tG := tG_of 650 (by decide +kernel) rfl
theorem kw_651 : (Cond.code yX11_cell prog_1_method_26_code (5 : Nat) (Option.some FieldType.long)) ∈ tG := tG_of 651 (by decide +kernel) rfl
theorem kw_652 : (Cond.methodLink "CallRounds" (262 : Nat) yX7_at) ∈ tG := tG_of 652 (by decide +kernel) rfl
theorem kw_653 : (Cond.methodLink "CallRoundsLaw" (120 : Nat) yX11_copy) ∈ tG := tG_of 653 (by decide +kernel) rfl
theorem kw_654 : (Cond.instanceMethod yX11_copy) ∈ tG := tG_of 654 (by decide +kernel) rfl
theorem kw_655 : (Cond.selects "CallRounds" yX11_copy yX11_copy) ∈ tG := tG_of 655 (by decide +kernel) rfl
theorem kw_656 : (Cond.code yX11_copy prog_1_method_27_code (8 : Nat) (Option.some FieldType.int)) ∈ tG := tG_of 656 (by decide +kernel) rfl
theorem kw_657 : (Cond.methodLink "CallRounds" (268 : Nat) ⟨"java/lang/System", "arraycopy", "(Ljava/lang/Object;ILjava/lang/Object;II)V"⟩) ∈ tG := tG_of 657 (by decide +kernel) rfl
theorem kw_658 : (Cond.static ⟨"java/lang/System", "arraycopy", "(Ljava/lang/Object;ILjava/lang/Object;II)V"⟩) ∈ tG := tG_of 658 (by decide +kernel) rfl
theorem kw_659 : (Cond.native ⟨"java/lang/System", "arraycopy", "(Ljava/lang/Object;ILjava/lang/Object;II)V"⟩) ∈ tG := tG_of 659 (by decide +kernel) rfl
theorem kw_660 : (Cond.methodLink "CallRoundsLaw" (125 : Nat) yX11_tell) ∈ tG := tG_of 660 (by decide +kernel) rfl
theorem kw_661 : (Cond.instanceMethod yX11_tell) ∈ tG := tG_of 661 (by decide +kernel) rfl
theorem kw_662 : (Cond.selects "CallRounds" yX11_tell yX11_tell) ∈ tG := tG_of 662 (by decide +kernel) rfl
theorem kw_663 : (Cond.code yX11_tell prog_1_method_28_code (3 : Nat) (Option.some FieldType.int)) ∈ tG := tG_of 663 (by decide +kernel) rfl
theorem kw_664 : (Cond.methodLink "CallRounds" (274 : Nat) yX1_telling) ∈ tG := tG_of 664 (by decide +kernel) rfl
theorem kw_665 : (Cond.instanceMethod yX1_telling) ∈ tG := tG_of 665 (by decide +kernel) rfl
theorem kw_666 : (Cond.selects "CallRounds$Call" yX1_telling yX1_telling) ∈ tG := tG_of 666 (by decide +kernel) rfl
theorem kw_667 : (Cond.sameMethod "CallRounds$Call" "CallRounds$Call" "telling" "(LCallRounds$Trace;)I") ∈ tG := tG_of 667 (by decide +kernel) rfl
theorem kw_668 : (Cond.selects "CallRounds$News" yX1_telling yX4_telling) ∈ tG := tG_of 668 (by decide +kernel) rfl
theorem kw_669 : (Cond.instanceMethod yX4_telling) ∈ tG := tG_of 669 (by decide +kernel) rfl
theorem kw_670 : (Cond.code yX4_telling prog_6_method_3_code (3 : Nat) (Option.some FieldType.int)) ∈ tG := tG_of 670 (by decide +kernel) rfl
theorem kw_671 : (Cond.methodLink "CallRounds$News" (7 : Nat) yX9_leave) ∈ tG := tG_of 671 (by decide +kernel) rfl
theorem kw_672 : (Cond.instanceMethod yX9_leave) ∈ tG := tG_of 672 (by decide +kernel) rfl
theorem kw_673 : (Cond.selects "CallRounds$Trace" yX9_leave yX9_leave) ∈ tG := tG_of 673 (by decide +kernel) rfl
theorem kw_674 : (Cond.code yX9_leave prog_11_method_2_code (2 : Nat) (Option.none : Option FieldType)) ∈ tG := tG_of 674 (by decide +kernel) rfl
theorem kw_675 : (Cond.methodLink "CallRounds$News" (19 : Nat) ⟨"CallRounds$News", "learntBy", "(I)I"⟩) ∈ tG := tG_of 675 (by decide +kernel) rfl
theorem kw_676 : (Cond.sameMethod "CallRounds$News" "CallRounds$Call" "learntBy" "(I)I") ∈ tG := tG_of 676 (by decide +kernel) rfl
theorem kw_678 : (Cond.selects "CallRounds$News" ⟨"CallRounds$News", "learntBy", "(I)I"⟩ yX1_learntBy) ∈ tG := tG_of 678 (by decide +kernel) rfl
theorem kw_679 : (Cond.selects "CallRounds$Whole" ⟨"CallRounds$News", "learntBy", "(I)I"⟩ yX1_learntBy) ∈ tG := tG_of 679 (by decide +kernel) rfl
theorem kw_680 : (Cond.methodLink "CallRounds$News" (23 : Nat) yJ6_bitCount_0f7a4) ∈ tG := tG_of 680 (by decide +kernel) rfl
theorem kw_681 : (Cond.methodLink "CallRounds$News" (31 : Nat) ⟨"CallRounds$News", "plainTelling", "(LCallRounds$Trace;)I"⟩) ∈ tG := tG_of 681 (by decide +kernel) rfl
theorem kw_682 : (Cond.sameMethod "CallRounds$News" "CallRounds$Call" "plainTelling" "(LCallRounds$Trace;)I") ∈ tG := tG_of 682 (by decide +kernel) rfl
theorem kw_684 : (Cond.selects "CallRounds$News" ⟨"CallRounds$News", "plainTelling", "(LCallRounds$Trace;)I"⟩ yX1_plainTelling) ∈ tG := tG_of 684 (by decide +kernel) rfl
theorem kw_685 : (Cond.selects "CallRounds$Whole" ⟨"CallRounds$News", "plainTelling", "(LCallRounds$Trace;)I"⟩ yX1_plainTelling) ∈ tG := tG_of 685 (by decide +kernel) rfl
theorem kw_686 : (Cond.instanceMethod yX1_plainTelling) ∈ tG := tG_of 686 (by decide +kernel) rfl
theorem kw_687 : (Cond.code yX1_plainTelling prog_3_method_5_code (2 : Nat) (Option.some FieldType.int)) ∈ tG := tG_of 687 (by decide +kernel) rfl
theorem kw_688 : (Cond.methodLink "CallRounds$Call" (36 : Nat) yX9_leave) ∈ tG := tG_of 688 (by decide +kernel) rfl
theorem kw_689 : (Cond.selects "CallRounds$Whole" yX1_telling yX10_telling) ∈ tG := tG_of 689 (by decide +kernel) rfl
theorem kw_690 : (Cond.instanceMethod yX10_telling) ∈ tG := tG_of 690 (by decide +kernel) rfl
theorem kw_691 : (Cond.code yX10_telling prog_12_method_3_code (3 : Nat) (Option.some FieldType.int)) ∈ tG := tG_of 691 (by decide +kernel) rfl
theorem kw_692 : (Cond.methodLink "CallRounds$Whole" (7 : Nat) yX9_leave) ∈ tG := tG_of 692 (by decide +kernel) rfl
theorem kw_693 : (Cond.methodLink "CallRounds$Whole" (13 : Nat) yX4_telling) ∈ tG := tG_of 693 (by decide +kernel) rfl
theorem kw_694 : (Cond.methodLink "CallRounds$Whole" (17 : Nat) ⟨"CallRounds$Whole", "plainTelling", "(LCallRounds$Trace;)I"⟩) ∈ tG := tG_of 694 (by decide +kernel) rfl
theorem kw_695 : (Cond.sameMethod "CallRounds$Whole" "CallRounds$Call" "plainTelling" "(LCallRounds$Trace;)I") ∈ tG := tG_of 695 (by decide +kernel) rfl
theorem kw_696 : (Cond.selects "CallRounds$Whole" ⟨"CallRounds$Whole", "plainTelling", "(LCallRounds$Trace;)I"⟩ yX1_plainTelling) ∈ tG := tG_of 696 (by decide +kernel) rfl
theorem kw_697 : (Cond.code yX1_telling prog_3_method_4_code (2 : Nat) (Option.some FieldType.int)) ∈ tG := tG_of 697 (by decide +kernel) rfl
theorem kw_698 : (Cond.methodLink "CallRounds$Call" (32 : Nat) yX1_plainTelling) ∈ tG := tG_of 698 (by decide +kernel) rfl
theorem kw_699 : (Cond.methodLink "CallRoundsLaw" (129 : Nat) yX11_log) ∈ tG := tG_of 699 (by decide +kernel) rfl
theorem kw_700 : (Cond.instanceMethod yX11_log) ∈ tG := tG_of 700 (by decide +kernel) rfl
theorem kw_701 : (Cond.selects "CallRounds" yX11_log yX11_log) ∈ tG := tG_of 701 (by decide +kernel) rfl
theorem kw_702 : (Cond.code yX11_log prog_1_method_29_code (3 : Nat) (Option.some FieldType.int)) ∈ tG := tG_of 702 (by decide +kernel) rfl
theorem kw_703 : (Cond.methodLink "CallRounds" (278 : Nat) yX1_logged) ∈ tG := tG_of 703 (by decide +kernel) rfl
theorem kw_704 : (Cond.instanceMethod yX1_logged) ∈ tG := tG_of 704 (by decide +kernel) rfl
theorem kw_705 : (Cond.selects "CallRounds$Call" yX1_logged yX1_logged) ∈ tG := tG_of 705 (by decide +kernel) rfl
theorem kw_706 : (Cond.sameMethod "CallRounds$Call" "CallRounds$Call" "logged" "(LCallRounds$Trace;)I") ∈ tG := tG_of 706 (by decide +kernel) rfl
theorem kw_707 : (Cond.selects "CallRounds$News" yX1_logged yX1_logged) ∈ tG := tG_of 707 (by decide +kernel) rfl
theorem kw_708 : (Cond.selects "CallRounds$Whole" yX1_logged yX10_logged) ∈ tG := tG_of 708 (by decide +kernel) rfl
theorem kw_709 : (Cond.instanceMethod yX10_logged) ∈ tG := tG_of 709 (by decide +kernel) rfl
theorem kw_710 : (Cond.code yX10_logged prog_12_method_4_code (2 : Nat) (Option.some FieldType.int)) ∈ tG := tG_of 710 (by decide +kernel) rfl
theorem kw_711 : (Cond.code yX1_logged prog_3_method_6_code (2 : Nat) (Option.some FieldType.int)) ∈ tG := tG_of 711 (by decide +kernel) rfl
theorem kw_712 : (Cond.methodLink "CallRoundsLaw" (133 : Nat) yX11_as) ∈ tG := tG_of 712 (by decide +kernel) rfl
theorem kw_713 : (Cond.instanceMethod yX11_as) ∈ tG := tG_of 713 (by decide +kernel) rfl
theorem kw_714 : (Cond.selects "CallRounds" yX11_as yX11_as) ∈ tG := tG_of 714 (by decide +kernel) rfl
theorem kw_715 : (Cond.code yX11_as prog_1_method_30_code (4 : Nat) (Option.some FieldType.int)) ∈ tG := tG_of 715 (by decide +kernel) rfl
theorem kw_716 : (Cond.methodLink "CallRoundsLaw" (137 : Nat) yX11_trace) ∈ tG := tG_of 716 (by decide +kernel) rfl
theorem kw_717 : (Cond.instanceMethod yX11_trace) ∈ tG := tG_of 717 (by decide +kernel) rfl
theorem kw_718 : (Cond.selects "CallRounds" yX11_trace yX11_trace) ∈ tG := tG_of 718 (by decide +kernel) rfl
theorem kw_719 : (Cond.code yX11_trace prog_1_method_31_code (1 : Nat) (Option.some FieldType.int)) ∈ tG := tG_of 719 (by decide +kernel) rfl
theorem kw_720 : (Cond.methodLink "CallRoundsLaw" (141 : Nat) yX11_fault) ∈ tG := tG_of 720 (by decide +kernel) rfl
theorem kw_721 : (Cond.instanceMethod yX11_fault) ∈ tG := tG_of 721 (by decide +kernel) rfl
theorem kw_722 : (Cond.selects "CallRounds" yX11_fault yX11_fault) ∈ tG := tG_of 722 (by decide +kernel) rfl
theorem kw_723 : (Cond.code yX11_fault prog_1_method_32_code (1 : Nat) (Option.some FieldType.int)) ∈ tG := tG_of 723 (by decide +kernel) rfl
theorem kw_724 : (Cond.methodLink "CallRoundsLaw" (145 : Nat) yX11_many) ∈ tG := tG_of 724 (by decide +kernel) rfl
theorem kw_725 : (Cond.instanceMethod yX11_many) ∈ tG := tG_of 725 (by decide +kernel) rfl
theorem kw_726 : (Cond.selects "CallRounds" yX11_many yX11_many) ∈ tG := tG_of 726 (by decide +kernel) rfl
theorem kw_727 : (Cond.code yX11_many prog_1_method_33_code (2 : Nat) (Option.some FieldType.int)) ∈ tG := tG_of 727 (by decide +kernel) rfl
theorem kw_728 : (Cond.methodLink "CallRounds" (284 : Nat) yX5_experts) ∈ tG := tG_of 728 (by decide +kernel) rfl
theorem kw_729 : (Cond.static yX5_experts) ∈ tG := tG_of 729 (by decide +kernel) rfl
theorem kw_730 : (Cond.code yX5_experts prog_7_method_12_code (5 : Nat) (Option.some FieldType.int)) ∈ tG := tG_of 730 (by decide +kernel) rfl
theorem kw_731 : (Cond.methodLink "CallRounds$Position" (27 : Nat) yX5_isExpert) ∈ tG := tG_of 731 (by decide +kernel) rfl
theorem kw_732 : (Cond.classLink "CallRoundsLaw" (10 : Nat) "CallRoundsModel") ∈ tG := tG_of 732 (by decide +kernel) rfl
theorem kw_733 : (Cond.instantiable "CallRoundsModel" (30 : Nat)) ∈ tG := tG_of 733 (by decide +kernel) rfl
theorem kw_734 : (Cond.methodLink "CallRoundsLaw" (12 : Nat) yX12_init) ∈ tG := tG_of 734 (by decide +kernel) rfl
theorem kw_735 : (Cond.instanceMethod yX12_init) ∈ tG := tG_of 735 (by decide +kernel) rfl
theorem kw_736 : (Cond.code yX12_init prog_14_method_1_code (1 : Nat) (Option.none : Option FieldType)) ∈ tG := tG_of 736 (by decide +kernel) rfl
theorem kw_737 : (Cond.methodLink "CallRoundsModel" (1 : Nat) ⟨"java/lang/Object", "<init>", "()V"⟩) ∈ tG := tG_of 737 (by decide +kernel) rfl
theorem kw_738 : (Cond.constant "CallRoundsModel" (31 : Nat) (65536 : Int32)) ∈ tG := tG_of 738 (by decide +kernel) rfl
theorem kw_739 : (Cond.fieldLink "CallRoundsModel" (72 : Nat) "CallRoundsModel" "fault" "I") ∈ tG := tG_of 739 (by decide +kernel) rfl
theorem kw_740 : (Cond.fieldLink "CallRoundsModel" (230 : Nat) "CallRoundsModel" "trace" "I") ∈ tG := tG_of 740 (by decide +kernel) rfl
theorem kw_741 : (Cond.fieldLink "CallRoundsModel" (9 : Nat) "CallRoundsModel" "lanes" "[I") ∈ tG := tG_of 741 (by decide +kernel) rfl
theorem kw_742 : (Cond.fieldLink "CallRoundsModel" (13 : Nat) "CallRoundsModel" "sheetLong" "[I") ∈ tG := tG_of 742 (by decide +kernel) rfl
theorem kw_743 : (Cond.fieldLink "CallRoundsModel" (16 : Nat) "CallRoundsModel" "cells" "[I") ∈ tG := tG_of 743 (by decide +kernel) rfl
theorem kw_744 : (Cond.fieldLink "CallRoundsModel" (82 : Nat) "CallRoundsModel" "persons" "I") ∈ tG := tG_of 744 (by decide +kernel) rfl
theorem kw_745 : (Cond.fieldLink "CallRoundsModel" (19 : Nat) "CallRoundsModel" "net" "[I") ∈ tG := tG_of 745 (by decide +kernel) rfl
theorem kw_746 : (Cond.fieldLink "CallRoundsModel" (22 : Nat) "CallRoundsModel" "readNet" "[I") ∈ tG := tG_of 746 (by decide +kernel) rfl
theorem kw_747 : (Cond.fieldLink "CallRoundsModel" (100 : Nat) "CallRoundsModel" "read" "I") ∈ tG := tG_of 747 (by decide +kernel) rfl
theorem kw_748 : (Cond.fieldLink "CallRoundsModel" (103 : Nat) "CallRoundsModel" "calls" "I") ∈ tG := tG_of 748 (by decide +kernel) rfl
theorem kw_749 : (Cond.fieldLink "CallRoundsModel" (25 : Nat) "CallRoundsModel" "callP" "[I") ∈ tG := tG_of 749 (by decide +kernel) rfl
theorem kw_750 : (Cond.fieldLink "CallRoundsModel" (28 : Nat) "CallRoundsModel" "callQ" "[I") ∈ tG := tG_of 750 (by decide +kernel) rfl
theorem kw_751 : (Cond.fieldLink "CallRoundsModel" (32 : Nat) "CallRoundsModel" "seen" "[I") ∈ tG := tG_of 751 (by decide +kernel) rfl
theorem kw_752 : (Cond.fieldLink "CallRoundsModel" (35 : Nat) "CallRoundsModel" "runs" "[J") ∈ tG := tG_of 752 (by decide +kernel) rfl
theorem kw_753 : (Cond.fieldLink "CallRoundsModel" (39 : Nat) "CallRoundsModel" "good" "[J") ∈ tG := tG_of 753 (by decide +kernel) rfl
theorem kw_754 : (Cond.fieldLink "CallRoundsModel" (42 : Nat) "CallRoundsModel" "fewest" "[I") ∈ tG := tG_of 754 (by decide +kernel) rfl
theorem kw_755 : (Cond.fieldLink "CallRoundsModel" (45 : Nat) "CallRoundsModel" "most" "[I") ∈ tG := tG_of 755 (by decide +kernel) rfl
theorem kw_756 : (Cond.fieldLink "CallRoundsModel" (161 : Nat) "CallRoundsModel" "turn" "I") ∈ tG := tG_of 756 (by decide +kernel) rfl
theorem kw_757 : (Cond.fieldLink "CallRoundsModel" (48 : Nat) "CallRoundsModel" "downState" "[I") ∈ tG := tG_of 757 (by decide +kernel) rfl
theorem kw_758 : (Cond.fieldLink "CallRoundsModel" (51 : Nat) "CallRoundsModel" "downTokens" "[I") ∈ tG := tG_of 758 (by decide +kernel) rfl
theorem kw_759 : (Cond.fieldLink "CallRoundsModel" (54 : Nat) "CallRoundsModel" "downNext" "[I") ∈ tG := tG_of 759 (by decide +kernel) rfl
theorem kw_760 : (Cond.fieldLink "CallRoundsModel" (57 : Nat) "CallRoundsModel" "lookNet" "[I") ∈ tG := tG_of 760 (by decide +kernel) rfl
theorem kw_761 : (Cond.fieldLink "CallRoundsModel" (164 : Nat) "CallRoundsModel" "lookMany" "I") ∈ tG := tG_of 761 (by decide +kernel) rfl
theorem kw_762 : (Cond.fieldLink "CallRoundsModel" (178 : Nat) "CallRoundsModel" "lookRule" "I") ∈ tG := tG_of 762 (by decide +kernel) rfl
theorem kw_763 : (Cond.fieldLink "CallRoundsModel" (60 : Nat) "CallRoundsModel" "rowP" "[I") ∈ tG := tG_of 763 (by decide +kernel) rfl
theorem kw_764 : (Cond.fieldLink "CallRoundsModel" (63 : Nat) "CallRoundsModel" "rowQ" "[I") ∈ tG := tG_of 764 (by decide +kernel) rfl
theorem kw_765 : (Cond.fieldLink "CallRoundsModel" (197 : Nat) "CallRoundsModel" "alikeMany" "I") ∈ tG := tG_of 765 (by decide +kernel) rfl
theorem kw_766 : (Cond.fieldLink "CallRoundsModel" (200 : Nat) "CallRoundsModel" "alikeState" "I") ∈ tG := tG_of 766 (by decide +kernel) rfl
theorem kw_767 : (Cond.fieldLink "CallRoundsModel" (66 : Nat) "CallRoundsModel" "other" "[I") ∈ tG := tG_of 767 (by decide +kernel) rfl
theorem kw_768 : (Cond.fieldLink "CallRoundsModel" (69 : Nat) "CallRoundsModel" "queue" "[I") ∈ tG := tG_of 768 (by decide +kernel) rfl
theorem kw_830 : (Cond.methodLink "CallRoundsLaw" (17 : Nat) yX12_net) ∈ tG := tG_of 830 (by decide +kernel) rfl
theorem kw_831 : (Cond.instanceMethod yX12_net) ∈ tG := tG_of 831 (by decide +kernel) rfl
theorem kw_832 : (Cond.selects "CallRoundsModel" yX12_net yX12_net) ∈ tG := tG_of 832 (by decide +kernel) rfl
theorem kw_833 : (Cond.code yX12_net prog_14_method_12_code (8 : Nat) (Option.some FieldType.int)) ∈ tG := tG_of 833 (by decide +kernel) rfl
theorem kw_834 : (Cond.methodLink "CallRoundsModel" (85 : Nat) yX12_isSheet) ∈ tG := tG_of 834 (by decide +kernel) rfl
theorem kw_835 : (Cond.static yX12_isSheet) ∈ tG := tG_of 835 (by decide +kernel) rfl
theorem kw_836 : (Cond.code yX12_isSheet prog_14_method_8_code (1 : Nat) (Option.some FieldType.boolean)) ∈ tG := tG_of 836 (by decide +kernel) rfl
theorem kw_837 : (Cond.methodLink "CallRoundsModel" (78 : Nat) yX12_isIn) ∈ tG := tG_of 837 (by decide +kernel) rfl
theorem kw_838 : (Cond.static yX12_isIn) ∈ tG := tG_of 838 (by decide +kernel) rfl
theorem kw_839 : (Cond.code yX12_isIn prog_14_method_5_code (3 : Nat) (Option.some FieldType.boolean)) ∈ tG := tG_of 839 (by decide +kernel) rfl
theorem kw_840 : (Cond.methodLink "CallRoundsModel" (89 : Nat) yX12_isLane) ∈ tG := tG_of 840 (by decide +kernel) rfl
theorem kw_841 : (Cond.static yX12_isLane) ∈ tG := tG_of 841 (by decide +kernel) rfl
theorem kw_842 : (Cond.code yX12_isLane prog_14_method_9_code (1 : Nat) (Option.some FieldType.boolean)) ∈ tG := tG_of 842 (by decide +kernel) rfl
theorem kw_843 : (Cond.methodLink "CallRoundsModel" (92 : Nat) yX12_fails) ∈ tG := tG_of 843 (by decide +kernel) rfl
theorem kw_845 : (Cond.instanceMethod yX12_fails) ∈ tG := tG_of 845 (by decide +kernel) rfl
theorem kw_846 : (Cond.code yX12_fails prog_14_method_3_code (2 : Nat) (Option.some FieldType.int)) ∈ tG := tG_of 846 (by decide +kernel) rfl
theorem kw_847 : (Cond.methodLink "CallRoundsModel" (96 : Nat) yX12_readAll) ∈ tG := tG_of 847 (by decide +kernel) rfl
theorem kw_849 : (Cond.instanceMethod yX12_readAll) ∈ tG := tG_of 849 (by decide +kernel) rfl
theorem kw_850 : (Cond.code yX12_readAll prog_14_method_13_code (7 : Nat) (Option.some FieldType.int)) ∈ tG := tG_of 850 (by decide +kernel) rfl
theorem kw_851 : (Cond.methodLink "CallRoundsModel" (106 : Nat) yX12_has) ∈ tG := tG_of 851 (by decide +kernel) rfl
theorem kw_852 : (Cond.static yX12_has) ∈ tG := tG_of 852 (by decide +kernel) rfl
theorem kw_853 : (Cond.code yX12_has prog_14_method_6_code (2 : Nat) (Option.some FieldType.boolean)) ∈ tG := tG_of 853 (by decide +kernel) rfl
theorem kw_854 : (Cond.methodLink "CallRoundsLaw" (22 : Nat) yX12_ofPerson) ∈ tG := tG_of 854 (by decide +kernel) rfl
theorem kw_855 : (Cond.instanceMethod yX12_ofPerson) ∈ tG := tG_of 855 (by decide +kernel) rfl
theorem kw_856 : (Cond.selects "CallRoundsModel" yX12_ofPerson yX12_ofPerson) ∈ tG := tG_of 856 (by decide +kernel) rfl
theorem kw_857 : (Cond.code yX12_ofPerson prog_14_method_22_code (4 : Nat) (Option.some FieldType.int)) ∈ tG := tG_of 857 (by decide +kernel) rfl
theorem kw_858 : (Cond.methodLink "CallRoundsModel" (125 : Nat) yX12_isPerson) ∈ tG := tG_of 858 (by decide +kernel) rfl
theorem kw_860 : (Cond.instanceMethod yX12_isPerson) ∈ tG := tG_of 860 (by decide +kernel) rfl
theorem kw_861 : (Cond.code yX12_isPerson prog_14_method_10_code (2 : Nat) (Option.some FieldType.boolean)) ∈ tG := tG_of 861 (by decide +kernel) rfl
theorem kw_862 : (Cond.methodLink "CallRoundsModel" (128 : Nat) yX12_stateAt) ∈ tG := tG_of 862 (by decide +kernel) rfl
theorem kw_864 : (Cond.instanceMethod yX12_stateAt) ∈ tG := tG_of 864 (by decide +kernel) rfl
theorem kw_865 : (Cond.code yX12_stateAt prog_14_method_19_code (4 : Nat) (Option.some FieldType.int)) ∈ tG := tG_of 865 (by decide +kernel) rfl
theorem kw_866 : (Cond.methodLink "CallRoundsModel" (114 : Nat) yX12_startOf) ∈ tG := tG_of 866 (by decide +kernel) rfl
theorem kw_868 : (Cond.instanceMethod yX12_startOf) ∈ tG := tG_of 868 (by decide +kernel) rfl
theorem kw_869 : (Cond.code yX12_startOf prog_14_method_17_code (2 : Nat) (Option.some FieldType.int)) ∈ tG := tG_of 869 (by decide +kernel) rfl
theorem kw_870 : (Cond.constant "CallRoundsModel" (113 : Nat) (33825 : Int32)) ∈ tG := tG_of 870 (by decide +kernel) rfl
theorem kw_871 : (Cond.methodLink "CallRoundsModel" (117 : Nat) yX12_afterCall) ∈ tG := tG_of 871 (by decide +kernel) rfl
theorem kw_872 : (Cond.static yX12_afterCall) ∈ tG := tG_of 872 (by decide +kernel) rfl
theorem kw_873 : (Cond.code yX12_afterCall prog_14_method_16_code (4 : Nat) (Option.some FieldType.int)) ∈ tG := tG_of 873 (by decide +kernel) rfl
theorem kw_874 : (Cond.methodLink "CallRoundsModel" (110 : Nat) yX12_of) ∈ tG := tG_of 874 (by decide +kernel) rfl
theorem kw_875 : (Cond.static yX12_of) ∈ tG := tG_of 875 (by decide +kernel) rfl
theorem kw_876 : (Cond.code yX12_of prog_14_method_14_code (2 : Nat) (Option.some FieldType.int)) ∈ tG := tG_of 876 (by decide +kernel) rfl
theorem kw_877 : (Cond.methodLink "CallRoundsModel" (131 : Nat) yX12_numbersOf) ∈ tG := tG_of 877 (by decide +kernel) rfl
theorem kw_878 : (Cond.static yX12_numbersOf) ∈ tG := tG_of 878 (by decide +kernel) rfl
theorem kw_879 : (Cond.code yX12_numbersOf prog_14_method_15_code (5 : Nat) (Option.some FieldType.int)) ∈ tG := tG_of 879 (by decide +kernel) rfl
theorem kw_880 : (Cond.methodLink "CallRoundsModel" (135 : Nat) yX12_tokensNow) ∈ tG := tG_of 880 (by decide +kernel) rfl
theorem kw_882 : (Cond.instanceMethod yX12_tokensNow) ∈ tG := tG_of 882 (by decide +kernel) rfl
theorem kw_883 : (Cond.code yX12_tokensNow prog_14_method_21_code (4 : Nat) (Option.some FieldType.int)) ∈ tG := tG_of 883 (by decide +kernel) rfl
theorem kw_884 : (Cond.methodLink "CallRoundsModel" (121 : Nat) yX12_tokensAfter) ∈ tG := tG_of 884 (by decide +kernel) rfl
theorem kw_885 : (Cond.static yX12_tokensAfter) ∈ tG := tG_of 885 (by decide +kernel) rfl
theorem kw_886 : (Cond.code yX12_tokensAfter prog_14_method_20_code (4 : Nat) (Option.some FieldType.int)) ∈ tG := tG_of 886 (by decide +kernel) rfl
theorem kw_887 : (Cond.methodLink "CallRoundsLaw" (26 : Nat) yX12_call) ∈ tG := tG_of 887 (by decide +kernel) rfl
theorem kw_888 : (Cond.instanceMethod yX12_call) ∈ tG := tG_of 888 (by decide +kernel) rfl
theorem kw_889 : (Cond.selects "CallRoundsModel" yX12_call yX12_call) ∈ tG := tG_of 889 (by decide +kernel) rfl
theorem kw_890 : (Cond.code yX12_call prog_14_method_23_code (3 : Nat) (Option.some FieldType.int)) ∈ tG := tG_of 890 (by decide +kernel) rfl
theorem kw_891 : (Cond.methodLink "CallRoundsLaw" (30 : Nat) yX12_ofCall) ∈ tG := tG_of 891 (by decide +kernel) rfl
theorem kw_892 : (Cond.instanceMethod yX12_ofCall) ∈ tG := tG_of 892 (by decide +kernel) rfl
theorem kw_893 : (Cond.selects "CallRoundsModel" yX12_ofCall yX12_ofCall) ∈ tG := tG_of 893 (by decide +kernel) rfl
theorem kw_894 : (Cond.code yX12_ofCall prog_14_method_27_code (3 : Nat) (Option.some FieldType.int)) ∈ tG := tG_of 894 (by decide +kernel) rfl
theorem kw_895 : (Cond.methodLink "CallRoundsModel" (144 : Nat) yX12_isCall) ∈ tG := tG_of 895 (by decide +kernel) rfl
theorem kw_897 : (Cond.instanceMethod yX12_isCall) ∈ tG := tG_of 897 (by decide +kernel) rfl
theorem kw_898 : (Cond.code yX12_isCall prog_14_method_24_code (2 : Nat) (Option.some FieldType.boolean)) ∈ tG := tG_of 898 (by decide +kernel) rfl
theorem kw_899 : (Cond.methodLink "CallRoundsModel" (147 : Nat) yX12_kindOf) ∈ tG := tG_of 899 (by decide +kernel) rfl
theorem kw_901 : (Cond.instanceMethod yX12_kindOf) ∈ tG := tG_of 901 (by decide +kernel) rfl
theorem kw_902 : (Cond.code yX12_kindOf prog_14_method_26_code (4 : Nat) (Option.some FieldType.int)) ∈ tG := tG_of 902 (by decide +kernel) rfl
theorem kw_903 : (Cond.methodLink "CallRoundsModel" (138 : Nat) yX12_learnt) ∈ tG := tG_of 903 (by decide +kernel) rfl
theorem kw_905 : (Cond.instanceMethod yX12_learnt) ∈ tG := tG_of 905 (by decide +kernel) rfl
theorem kw_906 : (Cond.code yX12_learnt prog_14_method_25_code (3 : Nat) (Option.some FieldType.int)) ∈ tG := tG_of 906 (by decide +kernel) rfl
theorem kw_907 : (Cond.methodLink "CallRoundsModel" (141 : Nat) yX12_bitsOf) ∈ tG := tG_of 907 (by decide +kernel) rfl
theorem kw_908 : (Cond.static yX12_bitsOf) ∈ tG := tG_of 908 (by decide +kernel) rfl
theorem kw_909 : (Cond.code yX12_bitsOf prog_14_method_7_code (3 : Nat) (Option.some FieldType.int)) ∈ tG := tG_of 909 (by decide +kernel) rfl
theorem kw_910 : (Cond.methodLink "CallRoundsLaw" (35 : Nat) yX12_back) ∈ tG := tG_of 910 (by decide +kernel) rfl
theorem kw_911 : (Cond.instanceMethod yX12_back) ∈ tG := tG_of 911 (by decide +kernel) rfl
theorem kw_912 : (Cond.selects "CallRoundsModel" yX12_back yX12_back) ∈ tG := tG_of 912 (by decide +kernel) rfl
theorem kw_913 : (Cond.code yX12_back prog_14_method_28_code (1 : Nat) (Option.some FieldType.int)) ∈ tG := tG_of 913 (by decide +kernel) rfl
theorem kw_914 : (Cond.methodLink "CallRoundsLaw" (39 : Nat) yX12_may) ∈ tG := tG_of 914 (by decide +kernel) rfl
theorem kw_915 : (Cond.instanceMethod yX12_may) ∈ tG := tG_of 915 (by decide +kernel) rfl
theorem kw_916 : (Cond.selects "CallRoundsModel" yX12_may yX12_may) ∈ tG := tG_of 916 (by decide +kernel) rfl
theorem kw_917 : (Cond.code yX12_may prog_14_method_30_code (5 : Nat) (Option.some FieldType.int)) ∈ tG := tG_of 917 (by decide +kernel) rfl
theorem kw_918 : (Cond.methodLink "CallRoundsModel" (150 : Nat) yX12_isRule) ∈ tG := tG_of 918 (by decide +kernel) rfl
theorem kw_919 : (Cond.static yX12_isRule) ∈ tG := tG_of 919 (by decide +kernel) rfl
theorem kw_920 : (Cond.code yX12_isRule prog_14_method_11_code (1 : Nat) (Option.some FieldType.boolean)) ∈ tG := tG_of 920 (by decide +kernel) rfl
theorem kw_921 : (Cond.methodLink "CallRoundsModel" (153 : Nat) yX12_mayRing) ∈ tG := tG_of 921 (by decide +kernel) rfl
theorem kw_922 : (Cond.static yX12_mayRing) ∈ tG := tG_of 922 (by decide +kernel) rfl
theorem kw_923 : (Cond.code yX12_mayRing prog_14_method_29_code (6 : Nat) (Option.some FieldType.boolean)) ∈ tG := tG_of 923 (by decide +kernel) rfl
theorem kw_924 : (Cond.methodLink "CallRoundsLaw" (44 : Nat) yX12_runs) ∈ tG := tG_of 924 (by decide +kernel) rfl
theorem kw_925 : (Cond.instanceMethod yX12_runs) ∈ tG := tG_of 925 (by decide +kernel) rfl
theorem kw_926 : (Cond.selects "CallRoundsModel" yX12_runs yX12_runs) ∈ tG := tG_of 926 (by decide +kernel) rfl
theorem kw_927 : (Cond.code yX12_runs prog_14_method_38_code (4 : Nat) (Option.some FieldType.long)) ∈ tG := tG_of 927 (by decide +kernel) rfl
theorem kw_928 : (Cond.constantLong "CallRoundsModel" (76 : Nat) (-9223372036854775808 : Int64)) ∈ tG := tG_of 928 (by decide +kernel) rfl
theorem kw_929 : (Cond.methodLink "CallRoundsModel" (191 : Nat) yX12_layNow) ∈ tG := tG_of 929 (by decide +kernel) rfl
theorem kw_931 : (Cond.instanceMethod yX12_layNow) ∈ tG := tG_of 931 (by decide +kernel) rfl
theorem kw_932 : (Cond.code yX12_layNow prog_14_method_37_code (2 : Nat) (Option.some FieldType.int)) ∈ tG := tG_of 932 (by decide +kernel) rfl
theorem kw_933 : (Cond.methodLink "CallRoundsModel" (184 : Nat) yX12_lookAt) ∈ tG := tG_of 933 (by decide +kernel) rfl
theorem kw_935 : (Cond.instanceMethod yX12_lookAt) ∈ tG := tG_of 935 (by decide +kernel) rfl
theorem kw_936 : (Cond.code yX12_lookAt prog_14_method_36_code (4 : Nat) (Option.none : Option FieldType)) ∈ tG := tG_of 936 (by decide +kernel) rfl
theorem kw_937 : (Cond.methodLink "CallRoundsModel" (188 : Nat) yX12_lay) ∈ tG := tG_of 937 (by decide +kernel) rfl
theorem kw_939 : (Cond.instanceMethod yX12_lay) ∈ tG := tG_of 939 (by decide +kernel) rfl
theorem kw_940 : (Cond.code yX12_lay prog_14_method_35_code (13 : Nat) (Option.some FieldType.int)) ∈ tG := tG_of 940 (by decide +kernel) rfl
theorem kw_941 : (Cond.methodLink "CallRoundsModel" (158 : Nat) yX12_placeOf) ∈ tG := tG_of 941 (by decide +kernel) rfl
theorem kw_942 : (Cond.static yX12_placeOf) ∈ tG := tG_of 942 (by decide +kernel) rfl
theorem kw_943 : (Cond.code yX12_placeOf prog_14_method_31_code (7 : Nat) (Option.some FieldType.int)) ∈ tG := tG_of 943 (by decide +kernel) rfl
theorem kw_944 : (Cond.constant "CallRoundsModel" (157 : Nat) (65535 : Int32)) ∈ tG := tG_of 944 (by decide +kernel) rfl
theorem kw_945 : (Cond.methodLink "CallRoundsModel" (170 : Nat) yX12_open) ∈ tG := tG_of 945 (by decide +kernel) rfl
theorem kw_947 : (Cond.instanceMethod yX12_open) ∈ tG := tG_of 947 (by decide +kernel) rfl
theorem kw_948 : (Cond.code yX12_open prog_14_method_32_code (5 : Nat) (Option.none : Option FieldType)) ∈ tG := tG_of 948 (by decide +kernel) rfl
theorem kw_949 : (Cond.methodLink "CallRoundsModel" (174 : Nat) yX12_close) ∈ tG := tG_of 949 (by decide +kernel) rfl
theorem kw_951 : (Cond.instanceMethod yX12_close) ∈ tG := tG_of 951 (by decide +kernel) rfl
theorem kw_952 : (Cond.code yX12_close prog_14_method_34_code (4 : Nat) (Option.none : Option FieldType)) ∈ tG := tG_of 952 (by decide +kernel) rfl
theorem kw_953 : (Cond.methodLink "CallRoundsModel" (167 : Nat) yX12_areExperts) ∈ tG := tG_of 953 (by decide +kernel) rfl
theorem kw_955 : (Cond.instanceMethod yX12_areExperts) ∈ tG := tG_of 955 (by decide +kernel) rfl
theorem kw_956 : (Cond.code yX12_areExperts prog_14_method_18_code (4 : Nat) (Option.some FieldType.boolean)) ∈ tG := tG_of 956 (by decide +kernel) rfl
theorem kw_957 : (Cond.methodLink "CallRoundsModel" (181 : Nat) yX12_add) ∈ tG := tG_of 957 (by decide +kernel) rfl
theorem kw_959 : (Cond.instanceMethod yX12_add) ∈ tG := tG_of 959 (by decide +kernel) rfl
theorem kw_960 : (Cond.code yX12_add prog_14_method_33_code (3 : Nat) (Option.none : Option FieldType)) ∈ tG := tG_of 960 (by decide +kernel) rfl
theorem kw_961 : (Cond.methodLink "CallRoundsLaw" (49 : Nat) yX12_verdict) ∈ tG := tG_of 961 (by decide +kernel) rfl
theorem kw_962 : (Cond.instanceMethod yX12_verdict) ∈ tG := tG_of 962 (by decide +kernel) rfl
theorem kw_963 : (Cond.selects "CallRoundsModel" yX12_verdict yX12_verdict) ∈ tG := tG_of 963 (by decide +kernel) rfl
theorem kw_964 : (Cond.code yX12_verdict prog_14_method_40_code (2 : Nat) (Option.some FieldType.int)) ∈ tG := tG_of 964 (by decide +kernel) rfl
theorem kw_965 : (Cond.methodLink "CallRoundsModel" (194 : Nat) yX12_verdictAt) ∈ tG := tG_of 965 (by decide +kernel) rfl
theorem kw_967 : (Cond.instanceMethod yX12_verdictAt) ∈ tG := tG_of 967 (by decide +kernel) rfl
theorem kw_968 : (Cond.code yX12_verdictAt prog_14_method_39_code (2 : Nat) (Option.some FieldType.int)) ∈ tG := tG_of 968 (by decide +kernel) rfl
theorem kw_969 : (Cond.methodLink "CallRoundsLaw" (53 : Nat) yX12_calls) ∈ tG := tG_of 969 (by decide +kernel) rfl
theorem kw_970 : (Cond.instanceMethod yX12_calls) ∈ tG := tG_of 970 (by decide +kernel) rfl
theorem kw_971 : (Cond.selects "CallRoundsModel" yX12_calls yX12_calls) ∈ tG := tG_of 971 (by decide +kernel) rfl
theorem kw_972 : (Cond.code yX12_calls prog_14_method_41_code (4 : Nat) (Option.some FieldType.int)) ∈ tG := tG_of 972 (by decide +kernel) rfl
theorem kw_973 : (Cond.methodLink "CallRoundsLaw" (58 : Nat) yX12_keeps) ∈ tG := tG_of 973 (by decide +kernel) rfl
theorem kw_974 : (Cond.instanceMethod yX12_keeps) ∈ tG := tG_of 974 (by decide +kernel) rfl
theorem kw_975 : (Cond.selects "CallRoundsModel" yX12_keeps yX12_keeps) ∈ tG := tG_of 975 (by decide +kernel) rfl
theorem kw_976 : (Cond.code yX12_keeps prog_14_method_42_code (6 : Nat) (Option.some FieldType.int)) ∈ tG := tG_of 976 (by decide +kernel) rfl
theorem kw_977 : (Cond.methodLink "CallRoundsLaw" (62 : Nat) yX12_best) ∈ tG := tG_of 977 (by decide +kernel) rfl
theorem kw_978 : (Cond.instanceMethod yX12_best) ∈ tG := tG_of 978 (by decide +kernel) rfl
theorem kw_979 : (Cond.selects "CallRoundsModel" yX12_best yX12_best) ∈ tG := tG_of 979 (by decide +kernel) rfl
theorem kw_980 : (Cond.code yX12_best prog_14_method_43_code (10 : Nat) (Option.some FieldType.int)) ∈ tG := tG_of 980 (by decide +kernel) rfl
theorem kw_981 : (Cond.methodLink "CallRoundsLaw" (66 : Nat) yX12_alike) ∈ tG := tG_of 981 (by decide +kernel) rfl
theorem kw_982 : (Cond.instanceMethod yX12_alike) ∈ tG := tG_of 982 (by decide +kernel) rfl
theorem kw_983 : (Cond.selects "CallRoundsModel" yX12_alike yX12_alike) ∈ tG := tG_of 983 (by decide +kernel) rfl
theorem kw_984 : (Cond.code yX12_alike prog_14_method_47_code (2 : Nat) (Option.some FieldType.int)) ∈ tG := tG_of 984 (by decide +kernel) rfl
theorem kw_985 : (Cond.methodLink "CallRoundsModel" (209 : Nat) yX12_layAlike) ∈ tG := tG_of 985 (by decide +kernel) rfl
theorem kw_987 : (Cond.instanceMethod yX12_layAlike) ∈ tG := tG_of 987 (by decide +kernel) rfl
theorem kw_988 : (Cond.code yX12_layAlike prog_14_method_46_code (5 : Nat) (Option.none : Option FieldType)) ∈ tG := tG_of 988 (by decide +kernel) rfl
theorem kw_989 : (Cond.methodLink "CallRoundsModel" (203 : Nat) yX12_layRow) ∈ tG := tG_of 989 (by decide +kernel) rfl
theorem kw_991 : (Cond.instanceMethod yX12_layRow) ∈ tG := tG_of 991 (by decide +kernel) rfl
theorem kw_992 : (Cond.code yX12_layRow prog_14_method_44_code (5 : Nat) (Option.some FieldType.int)) ∈ tG := tG_of 992 (by decide +kernel) rfl
theorem kw_993 : (Cond.methodLink "CallRoundsModel" (206 : Nat) yX12_seesAlike) ∈ tG := tG_of 993 (by decide +kernel) rfl
theorem kw_995 : (Cond.instanceMethod yX12_seesAlike) ∈ tG := tG_of 995 (by decide +kernel) rfl
theorem kw_996 : (Cond.code yX12_seesAlike prog_14_method_45_code (7 : Nat) (Option.some FieldType.boolean)) ∈ tG := tG_of 996 (by decide +kernel) rfl
theorem kw_997 : (Cond.methodLink "CallRoundsLaw" (70 : Nat) yX12_sure) ∈ tG := tG_of 997 (by decide +kernel) rfl
theorem kw_998 : (Cond.instanceMethod yX12_sure) ∈ tG := tG_of 998 (by decide +kernel) rfl
theorem kw_999 : (Cond.selects "CallRoundsModel" yX12_sure yX12_sure) ∈ tG := tG_of 999 (by decide +kernel) rfl
theorem kw_1000 : (Cond.code yX12_sure prog_14_method_48_code (4 : Nat) (Option.some FieldType.int)) ∈ tG := tG_of 1000 (by decide +kernel) rfl
theorem kw_1001 : (Cond.methodLink "CallRoundsLaw" (74 : Nat) yX12_known) ∈ tG := tG_of 1001 (by decide +kernel) rfl
theorem kw_1002 : (Cond.instanceMethod yX12_known) ∈ tG := tG_of 1002 (by decide +kernel) rfl
theorem kw_1003 : (Cond.selects "CallRoundsModel" yX12_known yX12_known) ∈ tG := tG_of 1003 (by decide +kernel) rfl
theorem kw_1004 : (Cond.code yX12_known prog_14_method_49_code (3 : Nat) (Option.some FieldType.int)) ∈ tG := tG_of 1004 (by decide +kernel) rfl
theorem kw_1005 : (Cond.methodLink "CallRoundsLaw" (78 : Nat) yX12_end) ∈ tG := tG_of 1005 (by decide +kernel) rfl
theorem kw_1006 : (Cond.instanceMethod yX12_end) ∈ tG := tG_of 1006 (by decide +kernel) rfl
theorem kw_1007 : (Cond.selects "CallRoundsModel" yX12_end yX12_end) ∈ tG := tG_of 1007 (by decide +kernel) rfl
theorem kw_1008 : (Cond.code yX12_end prog_14_method_50_code (2 : Nat) (Option.some FieldType.int)) ∈ tG := tG_of 1008 (by decide +kernel) rfl
theorem kw_1009 : (Cond.methodLink "CallRoundsLaw" (82 : Nat) yX12_joined) ∈ tG := tG_of 1009 (by decide +kernel) rfl
theorem kw_1010 : (Cond.instanceMethod yX12_joined) ∈ tG := tG_of 1010 (by decide +kernel) rfl
theorem kw_1011 : (Cond.selects "CallRoundsModel" yX12_joined yX12_joined) ∈ tG := tG_of 1011 (by decide +kernel) rfl
theorem kw_1012 : (Cond.code yX12_joined prog_14_method_52_code (1 : Nat) (Option.some FieldType.int)) ∈ tG := tG_of 1012 (by decide +kernel) rfl
theorem kw_1013 : (Cond.methodLink "CallRoundsModel" (213 : Nat) yX12_isJoined) ∈ tG := tG_of 1013 (by decide +kernel) rfl
theorem kw_1014 : (Cond.static yX12_isJoined) ∈ tG := tG_of 1014 (by decide +kernel) rfl
theorem kw_1015 : (Cond.code yX12_isJoined prog_14_method_51_code (6 : Nat) (Option.some FieldType.boolean)) ∈ tG := tG_of 1015 (by decide +kernel) rfl
theorem kw_1016 : (Cond.methodLink "CallRoundsLaw" (86 : Nat) yX12_bridge) ∈ tG := tG_of 1016 (by decide +kernel) rfl
theorem kw_1017 : (Cond.instanceMethod yX12_bridge) ∈ tG := tG_of 1017 (by decide +kernel) rfl
theorem kw_1018 : (Cond.selects "CallRoundsModel" yX12_bridge yX12_bridge) ∈ tG := tG_of 1018 (by decide +kernel) rfl
theorem kw_1019 : (Cond.code yX12_bridge prog_14_method_54_code (5 : Nat) (Option.some FieldType.int)) ∈ tG := tG_of 1019 (by decide +kernel) rfl
theorem kw_1020 : (Cond.methodLink "CallRoundsModel" (217 : Nat) yX12_layOther) ∈ tG := tG_of 1020 (by decide +kernel) rfl
theorem kw_1022 : (Cond.instanceMethod yX12_layOther) ∈ tG := tG_of 1022 (by decide +kernel) rfl
theorem kw_1023 : (Cond.code yX12_layOther prog_14_method_53_code (4 : Nat) (Option.none : Option FieldType)) ∈ tG := tG_of 1023 (by decide +kernel) rfl
theorem kw_1024 : (Cond.methodLink "CallRoundsLaw" (90 : Nat) yX12_sun) ∈ tG := tG_of 1024 (by decide +kernel) rfl
theorem kw_1025 : (Cond.instanceMethod yX12_sun) ∈ tG := tG_of 1025 (by decide +kernel) rfl
theorem kw_1026 : (Cond.selects "CallRoundsModel" yX12_sun yX12_sun) ∈ tG := tG_of 1026 (by decide +kernel) rfl
theorem kw_1027 : (Cond.code yX12_sun prog_14_method_55_code (6 : Nat) (Option.some FieldType.int)) ∈ tG := tG_of 1027 (by decide +kernel) rfl
theorem kw_1028 : (Cond.methodLink "CallRoundsLaw" (94 : Nat) yX12_mend) ∈ tG := tG_of 1028 (by decide +kernel) rfl
theorem kw_1029 : (Cond.instanceMethod yX12_mend) ∈ tG := tG_of 1029 (by decide +kernel) rfl
theorem kw_1030 : (Cond.selects "CallRoundsModel" yX12_mend yX12_mend) ∈ tG := tG_of 1030 (by decide +kernel) rfl
theorem kw_1031 : (Cond.code yX12_mend prog_14_method_57_code (6 : Nat) (Option.some FieldType.int)) ∈ tG := tG_of 1031 (by decide +kernel) rfl
theorem kw_1032 : (Cond.methodLink "CallRoundsModel" (220 : Nat) yX12_verdictFrom) ∈ tG := tG_of 1032 (by decide +kernel) rfl
theorem kw_1034 : (Cond.instanceMethod yX12_verdictFrom) ∈ tG := tG_of 1034 (by decide +kernel) rfl
theorem kw_1035 : (Cond.code yX12_verdictFrom prog_14_method_56_code (4 : Nat) (Option.some FieldType.int)) ∈ tG := tG_of 1035 (by decide +kernel) rfl
theorem kw_1036 : (Cond.methodLink "CallRoundsLaw" (98 : Nat) yX12_nets) ∈ tG := tG_of 1036 (by decide +kernel) rfl
theorem kw_1037 : (Cond.instanceMethod yX12_nets) ∈ tG := tG_of 1037 (by decide +kernel) rfl
theorem kw_1038 : (Cond.selects "CallRoundsModel" yX12_nets yX12_nets) ∈ tG := tG_of 1038 (by decide +kernel) rfl
theorem kw_1039 : (Cond.code yX12_nets prog_14_method_59_code (6 : Nat) (Option.some FieldType.int)) ∈ tG := tG_of 1039 (by decide +kernel) rfl
theorem kw_1040 : (Cond.methodLink "CallRoundsModel" (223 : Nat) yX12_layNet) ∈ tG := tG_of 1040 (by decide +kernel) rfl
theorem kw_1042 : (Cond.instanceMethod yX12_layNet) ∈ tG := tG_of 1042 (by decide +kernel) rfl
theorem kw_1043 : (Cond.code yX12_layNet prog_14_method_58_code (6 : Nat) (Option.none : Option FieldType)) ∈ tG := tG_of 1043 (by decide +kernel) rfl
theorem kw_1044 : (Cond.methodLink "CallRoundsLaw" (102 : Nat) yX12_within) ∈ tG := tG_of 1044 (by decide +kernel) rfl
theorem kw_1045 : (Cond.instanceMethod yX12_within) ∈ tG := tG_of 1045 (by decide +kernel) rfl
theorem kw_1046 : (Cond.selects "CallRoundsModel" yX12_within yX12_within) ∈ tG := tG_of 1046 (by decide +kernel) rfl
theorem kw_1047 : (Cond.code yX12_within prog_14_method_60_code (14 : Nat) (Option.some FieldType.int)) ∈ tG := tG_of 1047 (by decide +kernel) rfl
theorem kw_1048 : (Cond.methodLink "CallRoundsLaw" (106 : Nat) yX12_sheet) ∈ tG := tG_of 1048 (by decide +kernel) rfl
theorem kw_1049 : (Cond.instanceMethod yX12_sheet) ∈ tG := tG_of 1049 (by decide +kernel) rfl
theorem kw_1050 : (Cond.selects "CallRoundsModel" yX12_sheet yX12_sheet) ∈ tG := tG_of 1050 (by decide +kernel) rfl
theorem kw_1051 : (Cond.code yX12_sheet prog_14_method_61_code (5 : Nat) (Option.some FieldType.int)) ∈ tG := tG_of 1051 (by decide +kernel) rfl
theorem kw_1052 : (Cond.methodLink "CallRoundsLaw" (110 : Nat) yX12_lose) ∈ tG := tG_of 1052 (by decide +kernel) rfl
theorem kw_1053 : (Cond.instanceMethod yX12_lose) ∈ tG := tG_of 1053 (by decide +kernel) rfl
theorem kw_1054 : (Cond.selects "CallRoundsModel" yX12_lose yX12_lose) ∈ tG := tG_of 1054 (by decide +kernel) rfl
theorem kw_1055 : (Cond.code yX12_lose prog_14_method_62_code (3 : Nat) (Option.some FieldType.int)) ∈ tG := tG_of 1055 (by decide +kernel) rfl
theorem kw_1056 : (Cond.methodLink "CallRoundsLaw" (114 : Nat) yX12_put) ∈ tG := tG_of 1056 (by decide +kernel) rfl
theorem kw_1057 : (Cond.instanceMethod yX12_put) ∈ tG := tG_of 1057 (by decide +kernel) rfl
theorem kw_1058 : (Cond.selects "CallRoundsModel" yX12_put yX12_put) ∈ tG := tG_of 1058 (by decide +kernel) rfl
theorem kw_1059 : (Cond.code yX12_put prog_14_method_63_code (4 : Nat) (Option.some FieldType.int)) ∈ tG := tG_of 1059 (by decide +kernel) rfl
theorem kw_1060 : (Cond.methodLink "CallRoundsLaw" (119 : Nat) yX12_cell) ∈ tG := tG_of 1060 (by decide +kernel) rfl
theorem kw_1061 : (Cond.instanceMethod yX12_cell) ∈ tG := tG_of 1061 (by decide +kernel) rfl
theorem kw_1062 : (Cond.selects "CallRoundsModel" yX12_cell yX12_cell) ∈ tG := tG_of 1062 (by decide +kernel) rfl
theorem kw_1063 : (Cond.code yX12_cell prog_14_method_64_code (4 : Nat) (Option.some FieldType.long)) ∈ tG := tG_of 1063 (by decide +kernel) rfl
theorem kw_1064 : (Cond.methodLink "CallRoundsModel" (226 : Nat) yX12_lost) ∈ tG := tG_of 1064 (by decide +kernel) rfl
theorem kw_1066 : (Cond.instanceMethod yX12_lost) ∈ tG := tG_of 1066 (by decide +kernel) rfl
theorem kw_1067 : (Cond.code yX12_lost prog_14_method_4_code (2 : Nat) (Option.some FieldType.long)) ∈ tG := tG_of 1067 (by decide +kernel) rfl
theorem kw_1068 : (Cond.methodLink "CallRoundsLaw" (124 : Nat) yX12_copy) ∈ tG := tG_of 1068 (by decide +kernel) rfl
theorem kw_1069 : (Cond.instanceMethod yX12_copy) ∈ tG := tG_of 1069 (by decide +kernel) rfl
theorem kw_1070 : (Cond.selects "CallRoundsModel" yX12_copy yX12_copy) ∈ tG := tG_of 1070 (by decide +kernel) rfl
theorem kw_1071 : (Cond.code yX12_copy prog_14_method_65_code (10 : Nat) (Option.some FieldType.int)) ∈ tG := tG_of 1071 (by decide +kernel) rfl
theorem kw_1072 : (Cond.methodLink "CallRoundsLaw" (128 : Nat) yX12_tell) ∈ tG := tG_of 1072 (by decide +kernel) rfl
theorem kw_1073 : (Cond.instanceMethod yX12_tell) ∈ tG := tG_of 1073 (by decide +kernel) rfl
theorem kw_1074 : (Cond.selects "CallRoundsModel" yX12_tell yX12_tell) ∈ tG := tG_of 1074 (by decide +kernel) rfl
theorem kw_1075 : (Cond.code yX12_tell prog_14_method_67_code (4 : Nat) (Option.some FieldType.int)) ∈ tG := tG_of 1075 (by decide +kernel) rfl
theorem kw_1076 : (Cond.methodLink "CallRoundsModel" (233 : Nat) yX12_begins) ∈ tG := tG_of 1076 (by decide +kernel) rfl
theorem kw_1078 : (Cond.instanceMethod yX12_begins) ∈ tG := tG_of 1078 (by decide +kernel) rfl
theorem kw_1079 : (Cond.code yX12_begins prog_14_method_66_code (2 : Nat) (Option.none : Option FieldType)) ∈ tG := tG_of 1079 (by decide +kernel) rfl
theorem kw_1080 : (Cond.methodLink "CallRoundsLaw" (132 : Nat) yX12_log) ∈ tG := tG_of 1080 (by decide +kernel) rfl
theorem kw_1081 : (Cond.instanceMethod yX12_log) ∈ tG := tG_of 1081 (by decide +kernel) rfl
theorem kw_1082 : (Cond.selects "CallRoundsModel" yX12_log yX12_log) ∈ tG := tG_of 1082 (by decide +kernel) rfl
theorem kw_1083 : (Cond.code yX12_log prog_14_method_68_code (3 : Nat) (Option.some FieldType.int)) ∈ tG := tG_of 1083 (by decide +kernel) rfl
theorem kw_1084 : (Cond.methodLink "CallRoundsLaw" (136 : Nat) yX12_as) ∈ tG := tG_of 1084 (by decide +kernel) rfl
theorem kw_1085 : (Cond.instanceMethod yX12_as) ∈ tG := tG_of 1085 (by decide +kernel) rfl
theorem kw_1086 : (Cond.selects "CallRoundsModel" yX12_as yX12_as) ∈ tG := tG_of 1086 (by decide +kernel) rfl
theorem kw_1087 : (Cond.code yX12_as prog_14_method_69_code (3 : Nat) (Option.some FieldType.int)) ∈ tG := tG_of 1087 (by decide +kernel) rfl
theorem kw_1088 : (Cond.methodLink "CallRoundsLaw" (140 : Nat) yX12_trace) ∈ tG := tG_of 1088 (by decide +kernel) rfl
theorem kw_1089 : (Cond.instanceMethod yX12_trace) ∈ tG := tG_of 1089 (by decide +kernel) rfl
theorem kw_1090 : (Cond.selects "CallRoundsModel" yX12_trace yX12_trace) ∈ tG := tG_of 1090 (by decide +kernel) rfl
theorem kw_1091 : (Cond.code yX12_trace prog_14_method_70_code (1 : Nat) (Option.some FieldType.int)) ∈ tG := tG_of 1091 (by decide +kernel) rfl
theorem kw_1092 : (Cond.methodLink "CallRoundsLaw" (144 : Nat) yX12_fault) ∈ tG := tG_of 1092 (by decide +kernel) rfl
theorem kw_1093 : (Cond.instanceMethod yX12_fault) ∈ tG := tG_of 1093 (by decide +kernel) rfl
theorem kw_1094 : (Cond.selects "CallRoundsModel" yX12_fault yX12_fault) ∈ tG := tG_of 1094 (by decide +kernel) rfl
theorem kw_1095 : (Cond.code yX12_fault prog_14_method_71_code (1 : Nat) (Option.some FieldType.int)) ∈ tG := tG_of 1095 (by decide +kernel) rfl
theorem kw_1096 : (Cond.methodLink "CallRoundsLaw" (148 : Nat) yX12_many) ∈ tG := tG_of 1096 (by decide +kernel) rfl
theorem kw_1097 : (Cond.instanceMethod yX12_many) ∈ tG := tG_of 1097 (by decide +kernel) rfl
theorem kw_1098 : (Cond.selects "CallRoundsModel" yX12_many yX12_many) ∈ tG := tG_of 1098 (by decide +kernel) rfl
theorem kw_1099 : (Cond.code yX12_many prog_14_method_72_code (5 : Nat) (Option.some FieldType.int)) ∈ tG := tG_of 1099 (by decide +kernel) rfl
theorem kw_1100 : (Cond.sameMethod "CallRounds$News" "CallRounds$News" "telling" "(LCallRounds$Trace;)I") ∈ tG := tG_of 1100 (by decide +kernel) rfl
theorem kw_1101 : (Cond.sameMethod "CallRounds$Call" "CallRounds$Call" "plainTelling" "(LCallRounds$Trace;)I") ∈ tG := tG_of 1101 (by decide +kernel) rfl
theorem kw_1102 : (Cond.selects "CallRounds$Call" yX1_plainTelling yX1_plainTelling) ∈ tG := tG_of 1102 (by decide +kernel) rfl
theorem kw_1103 : (Cond.selects "CallRounds$News" yX1_plainTelling yX1_plainTelling) ∈ tG := tG_of 1103 (by decide +kernel) rfl
theorem kw_1104 : (Cond.selects "CallRounds$Whole" yX1_plainTelling yX1_plainTelling) ∈ tG := tG_of 1104 (by decide +kernel) rfl
theorem ks_X11_isSheet : Cond.selects RX11 yX11_isSheet yX11_isSheet ∈ tG := tG_sel 0 rfl
theorem ks_X11_isLane : Cond.selects RX11 yX11_isLane yX11_isLane ∈ tG := tG_sel 1 rfl
theorem ks_X11_faulted : Cond.selects RX11 yX11_faulted yX11_faulted ∈ tG := tG_sel 2 rfl
theorem ks_X3_firstBroken : Cond.selects RX3 yX3_firstBroken yX3_firstBroken ∈ tG := tG_sel 3 rfl
theorem ks_X3_beginItem : Cond.selects RX3 yX3_beginItem yX3_beginItem ∈ tG := tG_sel 4 rfl
theorem ks_X3_takesNumber : Cond.selects RX3 yX3_takesNumber yX3_takesNumber ∈ tG := tG_sel 5 rfl
theorem ks_X3_firstStranger : Cond.selects RX3 yX3_firstStranger yX3_firstStranger ∈ tG := tG_sel 6 rfl
theorem ks_X11_begin : Cond.selects RX11 yX11_begin yX11_begin ∈ tG := tG_sel 7 rfl
theorem ks_X11_moveTo : Cond.selects RX11 yX11_moveTo yX11_moveTo ∈ tG := tG_sel 8 rfl
theorem ks_X11_isPerson : Cond.selects RX11 yX11_isPerson yX11_isPerson ∈ tG := tG_sel 9 rfl
theorem ks_X11_newCall : Cond.selects RX11 yX11_newCall yX11_newCall ∈ tG := tG_sel 10 rfl
theorem ks_X11_callAt : Cond.selects RX11 yX11_callAt yX11_callAt ∈ tG := tG_sel 11 rfl
theorem ks_X11_isRule : Cond.selects RX11 yX11_isRule yX11_isRule ∈ tG := tG_sel 12 rfl
theorem ks_X11_isEither : Cond.selects RX11 yX11_isEither yX11_isEither ∈ tG := tG_sel 13 rfl
theorem ks_X11_noPersons : Cond.selects RX11 yX11_noPersons yX11_noPersons ∈ tG := tG_sel 14 rfl
theorem ks_X6_count : Cond.selects RX6 yX6_count yX6_count ∈ tG := tG_sel 15 rfl
theorem ks_X8_slotFor : Cond.selects RX8 yX8_slotFor yX8_slotFor ∈ tG := tG_sel 16 rfl
theorem ks_X6_keep : Cond.selects RX6 yX6_keep yX6_keep ∈ tG := tG_sel 17 rfl
theorem ks_X0_find : Cond.selects RX0 yX0_find yX0_find ∈ tG := tG_sel 18 rfl
theorem ks_X0_follow : Cond.selects RX0 yX0_follow yX0_follow ∈ tG := tG_sel 19 rfl
theorem ks_X11_surelyHad : Cond.selects RX11 yX11_surelyHad yX11_surelyHad ∈ tG := tG_sel 20 rfl
theorem ks_X11_isPlaceOfNumber : Cond.selects RX11 yX11_isPlaceOfNumber yX11_isPlaceOfNumber ∈ tG := tG_sel 21 rfl
theorem ks_X11_findMending : Cond.selects RX11 yX11_findMending yX11_findMending ∈ tG := tG_sel 22 rfl
theorem ks_X11_countNets : Cond.selects RX11 yX11_countNets yX11_countNets ∈ tG := tG_sel 23 rfl
theorem ks_X6_include : Cond.selects RX6 yX6_include yX6_include ∈ tG := tG_sel 24 rfl
theorem ks_X7_cut : Cond.selects RX7 yX7_cut yX7_cut ∈ tG := tG_sel 25 rfl
theorem ks_X12_fails : Cond.selects RX12 yX12_fails yX12_fails ∈ tG := tG_sel 26 rfl
theorem ks_X12_readAll : Cond.selects RX12 yX12_readAll yX12_readAll ∈ tG := tG_sel 27 rfl
theorem ks_X12_isPerson : Cond.selects RX12 yX12_isPerson yX12_isPerson ∈ tG := tG_sel 28 rfl
theorem ks_X12_stateAt : Cond.selects RX12 yX12_stateAt yX12_stateAt ∈ tG := tG_sel 29 rfl
theorem ks_X12_startOf : Cond.selects RX12 yX12_startOf yX12_startOf ∈ tG := tG_sel 30 rfl
theorem ks_X12_tokensNow : Cond.selects RX12 yX12_tokensNow yX12_tokensNow ∈ tG := tG_sel 31 rfl
theorem ks_X12_isCall : Cond.selects RX12 yX12_isCall yX12_isCall ∈ tG := tG_sel 32 rfl
theorem ks_X12_kindOf : Cond.selects RX12 yX12_kindOf yX12_kindOf ∈ tG := tG_sel 33 rfl
theorem ks_X12_learnt : Cond.selects RX12 yX12_learnt yX12_learnt ∈ tG := tG_sel 34 rfl
theorem ks_X12_layNow : Cond.selects RX12 yX12_layNow yX12_layNow ∈ tG := tG_sel 35 rfl
theorem ks_X12_lookAt : Cond.selects RX12 yX12_lookAt yX12_lookAt ∈ tG := tG_sel 36 rfl
theorem ks_X12_lay : Cond.selects RX12 yX12_lay yX12_lay ∈ tG := tG_sel 37 rfl
theorem ks_X12_open : Cond.selects RX12 yX12_open yX12_open ∈ tG := tG_sel 38 rfl
theorem ks_X12_close : Cond.selects RX12 yX12_close yX12_close ∈ tG := tG_sel 39 rfl
theorem ks_X12_areExperts : Cond.selects RX12 yX12_areExperts yX12_areExperts ∈ tG := tG_sel 40 rfl
theorem ks_X12_add : Cond.selects RX12 yX12_add yX12_add ∈ tG := tG_sel 41 rfl
theorem ks_X12_verdictAt : Cond.selects RX12 yX12_verdictAt yX12_verdictAt ∈ tG := tG_sel 42 rfl
theorem ks_X12_layAlike : Cond.selects RX12 yX12_layAlike yX12_layAlike ∈ tG := tG_sel 43 rfl
theorem ks_X12_layRow : Cond.selects RX12 yX12_layRow yX12_layRow ∈ tG := tG_sel 44 rfl
theorem ks_X12_seesAlike : Cond.selects RX12 yX12_seesAlike yX12_seesAlike ∈ tG := tG_sel 45 rfl
theorem ks_X12_layOther : Cond.selects RX12 yX12_layOther yX12_layOther ∈ tG := tG_sel 46 rfl
theorem ks_X12_verdictFrom : Cond.selects RX12 yX12_verdictFrom yX12_verdictFrom ∈ tG := tG_sel 47 rfl
theorem ks_X12_layNet : Cond.selects RX12 yX12_layNet yX12_layNet ∈ tG := tG_sel 48 rfl
theorem ks_X12_lost : Cond.selects RX12 yX12_lost yX12_lost ∈ tG := tG_sel 49 rfl
theorem ks_X12_begins : Cond.selects RX12 yX12_begins yX12_begins ∈ tG := tG_sel 50 rfl
theorem iX0 : ∀ w ∈ u_ws RX0 TX0 5, w ∈ tG := by decide +kernel
theorem iX1 : ∀ w ∈ u_ws RX1 TX1 5, w ∈ tG := by decide +kernel
theorem iX3 : ∀ w ∈ u_ws RX3 TX3 2, w ∈ tG := by decide +kernel
theorem iX4 : ∀ w ∈ u_ws RX4 TX4 5, w ∈ tG := by decide +kernel
theorem iX6 : ∀ w ∈ u_ws RX6 TX6 6, w ∈ tG := by decide +kernel
theorem iX7 : ∀ w ∈ u_ws RX7 TX7 2, w ∈ tG := by decide +kernel
theorem iX8 : ∀ w ∈ u_ws RX8 TX8 2, w ∈ tG := by decide +kernel
theorem iX9 : ∀ w ∈ u_ws RX9 TX9 1, w ∈ tG := by decide +kernel
theorem iX10 : ∀ w ∈ u_ws RX10 TX10 5, w ∈ tG := by decide +kernel
theorem iX11 : ∀ w ∈ u_ws RX11 TX11 13, w ∈ tG := by decide +kernel
theorem iX12 : ∀ w ∈ u_ws RX12 TX12 30, w ∈ tG := by decide +kernel
end
section
theorem dX12_init_0 : decode cX12_init 0 = .ok (.aload_n 0, 1) := by decide +kernel
theorem dX12_init_1 : decode cX12_init 1 = .ok (.invokespecial 1, 3) := by decide +kernel
theorem dX12_init_4 : decode cX12_init 4 = .ok (.aload_n 0, 1) := by decide +kernel
theorem dX12_init_5 : decode cX12_init 5 = .ok (.iconst 4, 1) := by decide +kernel
theorem dX12_init_6 : decode cX12_init 6 = .ok (.newarray .int, 2) := by decide +kernel
theorem dX12_init_8 : decode cX12_init 8 = .ok (.dup, 1) := by decide +kernel
theorem dX12_init_9 : decode cX12_init 9 = .ok (.iconst 0, 1) := by decide +kernel
theorem dX12_init_10 : decode cX12_init 10 = .ok (.bipush (-9), 2) := by decide +kernel
theorem dX12_init_12 : decode cX12_init 12 = .ok (.iastore, 1) := by decide +kernel
theorem dX12_init_13 : decode cX12_init 13 = .ok (.dup, 1) := by decide +kernel
theorem dX12_init_14 : decode cX12_init 14 = .ok (.iconst 1, 1) := by decide +kernel
theorem dX12_init_15 : decode cX12_init 15 = .ok (.bipush (-9), 2) := by decide +kernel
theorem dX12_init_17 : decode cX12_init 17 = .ok (.iastore, 1) := by decide +kernel
theorem dX12_init_18 : decode cX12_init 18 = .ok (.dup, 1) := by decide +kernel
theorem dX12_init_19 : decode cX12_init 19 = .ok (.iconst 2, 1) := by decide +kernel
theorem dX12_init_20 : decode cX12_init 20 = .ok (.bipush (-9), 2) := by decide +kernel
theorem dX12_init_22 : decode cX12_init 22 = .ok (.iastore, 1) := by decide +kernel
theorem dX12_init_23 : decode cX12_init 23 = .ok (.dup, 1) := by decide +kernel
theorem dX12_init_24 : decode cX12_init 24 = .ok (.iconst 3, 1) := by decide +kernel
theorem dX12_init_25 : decode cX12_init 25 = .ok (.bipush (-9), 2) := by decide +kernel
theorem dX12_init_27 : decode cX12_init 27 = .ok (.iastore, 1) := by decide +kernel
theorem dX12_init_28 : decode cX12_init 28 = .ok (.putfield 9, 3) := by decide +kernel
theorem dX12_init_31 : decode cX12_init 31 = .ok (.aload_n 0, 1) := by decide +kernel
theorem dX12_init_32 : decode cX12_init 32 = .ok (.iconst 4, 1) := by decide +kernel
theorem dX12_init_33 : decode cX12_init 33 = .ok (.newarray .int, 2) := by decide +kernel
theorem dX12_init_35 : decode cX12_init 35 = .ok (.putfield 13, 3) := by decide +kernel
theorem dX12_init_38 : decode cX12_init 38 = .ok (.aload_n 0, 1) := by decide +kernel
theorem dX12_init_39 : decode cX12_init 39 = .ok (.sipush 240, 3) := by decide +kernel
theorem dX12_init_42 : decode cX12_init 42 = .ok (.newarray .int, 2) := by decide +kernel
theorem dX12_init_44 : decode cX12_init 44 = .ok (.putfield 16, 3) := by decide +kernel
theorem dX12_init_47 : decode cX12_init 47 = .ok (.aload_n 0, 1) := by decide +kernel
theorem dX12_init_48 : decode cX12_init 48 = .ok (.iconst 4, 1) := by decide +kernel
theorem dX12_init_49 : decode cX12_init 49 = .ok (.newarray .int, 2) := by decide +kernel
theorem dX12_init_51 : decode cX12_init 51 = .ok (.putfield 19, 3) := by decide +kernel
theorem dX12_init_54 : decode cX12_init 54 = .ok (.aload_n 0, 1) := by decide +kernel
theorem dX12_init_55 : decode cX12_init 55 = .ok (.iconst 4, 1) := by decide +kernel
theorem dX12_init_56 : decode cX12_init 56 = .ok (.newarray .int, 2) := by decide +kernel
theorem dX12_init_58 : decode cX12_init 58 = .ok (.putfield 22, 3) := by decide +kernel
theorem dX12_init_61 : decode cX12_init 61 = .ok (.aload_n 0, 1) := by decide +kernel
theorem dX12_init_62 : decode cX12_init 62 = .ok (.bipush 12, 2) := by decide +kernel
theorem dX12_init_64 : decode cX12_init 64 = .ok (.newarray .int, 2) := by decide +kernel
theorem dX12_init_66 : decode cX12_init 66 = .ok (.putfield 25, 3) := by decide +kernel
theorem dX12_init_69 : decode cX12_init 69 = .ok (.aload_n 0, 1) := by decide +kernel
theorem dX12_init_70 : decode cX12_init 70 = .ok (.bipush 12, 2) := by decide +kernel
theorem dX12_init_72 : decode cX12_init 72 = .ok (.newarray .int, 2) := by decide +kernel
theorem dX12_init_74 : decode cX12_init 74 = .ok (.putfield 28, 3) := by decide +kernel
theorem dX12_init_77 : decode cX12_init 77 = .ok (.aload_n 0, 1) := by decide +kernel
theorem dX12_init_78 : decode cX12_init 78 = .ok (.ldc 31, 2) := by decide +kernel
theorem dX12_init_80 : decode cX12_init 80 = .ok (.newarray .int, 2) := by decide +kernel
theorem dX12_init_82 : decode cX12_init 82 = .ok (.putfield 32, 3) := by decide +kernel
theorem dX12_init_85 : decode cX12_init 85 = .ok (.aload_n 0, 1) := by decide +kernel
theorem dX12_init_86 : decode cX12_init 86 = .ok (.ldc 31, 2) := by decide +kernel
theorem dX12_init_88 : decode cX12_init 88 = .ok (.newarray .long, 2) := by decide +kernel
theorem dX12_init_90 : decode cX12_init 90 = .ok (.putfield 35, 3) := by decide +kernel
theorem dX12_init_93 : decode cX12_init 93 = .ok (.aload_n 0, 1) := by decide +kernel
theorem dX12_init_94 : decode cX12_init 94 = .ok (.ldc 31, 2) := by decide +kernel
theorem dX12_init_96 : decode cX12_init 96 = .ok (.newarray .long, 2) := by decide +kernel
theorem dX12_init_98 : decode cX12_init 98 = .ok (.putfield 39, 3) := by decide +kernel
theorem dX12_init_101 : decode cX12_init 101 = .ok (.aload_n 0, 1) := by decide +kernel
theorem dX12_init_102 : decode cX12_init 102 = .ok (.ldc 31, 2) := by decide +kernel
theorem dX12_init_104 : decode cX12_init 104 = .ok (.newarray .int, 2) := by decide +kernel
theorem dX12_init_106 : decode cX12_init 106 = .ok (.putfield 42, 3) := by decide +kernel
theorem dX12_init_109 : decode cX12_init 109 = .ok (.aload_n 0, 1) := by decide +kernel
theorem dX12_init_110 : decode cX12_init 110 = .ok (.ldc 31, 2) := by decide +kernel
theorem dX12_init_112 : decode cX12_init 112 = .ok (.newarray .int, 2) := by decide +kernel
theorem dX12_init_114 : decode cX12_init 114 = .ok (.putfield 45, 3) := by decide +kernel
theorem dX12_init_117 : decode cX12_init 117 = .ok (.aload_n 0, 1) := by decide +kernel
theorem dX12_init_118 : decode cX12_init 118 = .ok (.bipush 16, 2) := by decide +kernel
theorem dX12_init_120 : decode cX12_init 120 = .ok (.newarray .int, 2) := by decide +kernel
theorem dX12_init_122 : decode cX12_init 122 = .ok (.putfield 48, 3) := by decide +kernel
theorem dX12_init_125 : decode cX12_init 125 = .ok (.aload_n 0, 1) := by decide +kernel
theorem dX12_init_126 : decode cX12_init 126 = .ok (.bipush 16, 2) := by decide +kernel
theorem dX12_init_128 : decode cX12_init 128 = .ok (.newarray .int, 2) := by decide +kernel
theorem dX12_init_130 : decode cX12_init 130 = .ok (.putfield 51, 3) := by decide +kernel
theorem dX12_init_133 : decode cX12_init 133 = .ok (.aload_n 0, 1) := by decide +kernel
theorem dX12_init_134 : decode cX12_init 134 = .ok (.bipush 16, 2) := by decide +kernel
theorem dX12_init_136 : decode cX12_init 136 = .ok (.newarray .int, 2) := by decide +kernel
theorem dX12_init_138 : decode cX12_init 138 = .ok (.putfield 54, 3) := by decide +kernel
theorem dX12_init_141 : decode cX12_init 141 = .ok (.aload_n 0, 1) := by decide +kernel
theorem dX12_init_142 : decode cX12_init 142 = .ok (.aload_n 0, 1) := by decide +kernel
theorem dX12_init_143 : decode cX12_init 143 = .ok (.getfield 19, 3) := by decide +kernel
theorem dX12_init_146 : decode cX12_init 146 = .ok (.putfield 57, 3) := by decide +kernel
theorem dX12_init_149 : decode cX12_init 149 = .ok (.aload_n 0, 1) := by decide +kernel
theorem dX12_init_150 : decode cX12_init 150 = .ok (.iconst 4, 1) := by decide +kernel
theorem dX12_init_151 : decode cX12_init 151 = .ok (.newarray .int, 2) := by decide +kernel
theorem dX12_init_153 : decode cX12_init 153 = .ok (.putfield 60, 3) := by decide +kernel
theorem dX12_init_156 : decode cX12_init 156 = .ok (.aload_n 0, 1) := by decide +kernel
theorem dX12_init_157 : decode cX12_init 157 = .ok (.iconst 4, 1) := by decide +kernel
theorem dX12_init_158 : decode cX12_init 158 = .ok (.newarray .int, 2) := by decide +kernel
theorem dX12_init_160 : decode cX12_init 160 = .ok (.putfield 63, 3) := by decide +kernel
theorem dX12_init_163 : decode cX12_init 163 = .ok (.aload_n 0, 1) := by decide +kernel
theorem dX12_init_164 : decode cX12_init 164 = .ok (.iconst 4, 1) := by decide +kernel
theorem dX12_init_165 : decode cX12_init 165 = .ok (.newarray .int, 2) := by decide +kernel
theorem dX12_init_167 : decode cX12_init 167 = .ok (.putfield 66, 3) := by decide +kernel
theorem dX12_init_170 : decode cX12_init 170 = .ok (.aload_n 0, 1) := by decide +kernel
theorem dX12_init_171 : decode cX12_init 171 = .ok (.ldc 31, 2) := by decide +kernel
theorem dX12_init_173 : decode cX12_init 173 = .ok (.newarray .int, 2) := by decide +kernel
theorem dX12_init_175 : decode cX12_init 175 = .ok (.putfield 69, 3) := by decide +kernel
theorem dX12_init_178 : decode cX12_init 178 = .ok (.return_, 1) := by decide +kernel
theorem dX12_fails_0 : decode cX12_fails 0 = .ok (.aload_n 0, 1) := by decide +kernel
theorem dX12_fails_1 : decode cX12_fails 1 = .ok (.iload_n 1, 1) := by decide +kernel
theorem dX12_fails_2 : decode cX12_fails 2 = .ok (.putfield 72, 3) := by decide +kernel
theorem dX12_fails_5 : decode cX12_fails 5 = .ok (.bipush (-10), 2) := by decide +kernel
theorem dX12_fails_7 : decode cX12_fails 7 = .ok (.iload_n 1, 1) := by decide +kernel
theorem dX12_fails_8 : decode cX12_fails 8 = .ok (.isub, 1) := by decide +kernel
theorem dX12_fails_9 : decode cX12_fails 9 = .ok (.ireturn, 1) := by decide +kernel
theorem dX12_lost_0 : decode cX12_lost 0 = .ok (.aload_n 0, 1) := by decide +kernel
theorem dX12_lost_1 : decode cX12_lost 1 = .ok (.iload_n 1, 1) := by decide +kernel
theorem dX12_lost_2 : decode cX12_lost 2 = .ok (.putfield 72, 3) := by decide +kernel
theorem dX12_lost_5 : decode cX12_lost 5 = .ok (.ldc2_w 76, 3) := by decide +kernel
theorem dX12_lost_8 : decode cX12_lost 8 = .ok (.lreturn, 1) := by decide +kernel
theorem dX12_isIn_0 : decode cX12_isIn 0 = .ok (.iload_n 0, 1) := by decide +kernel
theorem dX12_isIn_1 : decode cX12_isIn 1 = .ok (.iload_n 1, 1) := by decide +kernel
theorem dX12_isIn_2 : decode cX12_isIn 2 = .ok (.if_icmp .lt 12, 3) := by decide +kernel
theorem dX12_isIn_5 : decode cX12_isIn 5 = .ok (.iload_n 0, 1) := by decide +kernel
theorem dX12_isIn_6 : decode cX12_isIn 6 = .ok (.iload_n 2, 1) := by decide +kernel
theorem dX12_isIn_7 : decode cX12_isIn 7 = .ok (.if_icmp .gt 7, 3) := by decide +kernel
theorem dX12_isIn_10 : decode cX12_isIn 10 = .ok (.iconst 1, 1) := by decide +kernel
theorem dX12_isIn_11 : decode cX12_isIn 11 = .ok (.goto 4, 3) := by decide +kernel
theorem dX12_isIn_14 : decode cX12_isIn 14 = .ok (.iconst 0, 1) := by decide +kernel
theorem dX12_isIn_15 : decode cX12_isIn 15 = .ok (.ireturn, 1) := by decide +kernel
theorem dX12_has_0 : decode cX12_has 0 = .ok (.iload_n 0, 1) := by decide +kernel
theorem dX12_has_1 : decode cX12_has 1 = .ok (.iload_n 1, 1) := by decide +kernel
theorem dX12_has_2 : decode cX12_has 2 = .ok (.ishr, 1) := by decide +kernel
theorem dX12_has_3 : decode cX12_has 3 = .ok (.iconst 1, 1) := by decide +kernel
theorem dX12_has_4 : decode cX12_has 4 = .ok (.iand, 1) := by decide +kernel
theorem dX12_has_5 : decode cX12_has 5 = .ok (.iconst 1, 1) := by decide +kernel
theorem dX12_has_6 : decode cX12_has 6 = .ok (.if_icmp .ne 7, 3) := by decide +kernel
theorem dX12_has_9 : decode cX12_has 9 = .ok (.iconst 1, 1) := by decide +kernel
theorem dX12_has_10 : decode cX12_has 10 = .ok (.goto 4, 3) := by decide +kernel
theorem dX12_has_13 : decode cX12_has 13 = .ok (.iconst 0, 1) := by decide +kernel
theorem dX12_has_14 : decode cX12_has 14 = .ok (.ireturn, 1) := by decide +kernel
theorem dX12_bitsOf_0 : decode cX12_bitsOf 0 = .ok (.iconst 0, 1) := by decide +kernel
theorem dX12_bitsOf_1 : decode cX12_bitsOf 1 = .ok (.istore_n 1, 1) := by decide +kernel
theorem dX12_bitsOf_2 : decode cX12_bitsOf 2 = .ok (.iconst 0, 1) := by decide +kernel
theorem dX12_bitsOf_3 : decode cX12_bitsOf 3 = .ok (.istore_n 2, 1) := by decide +kernel
theorem dX12_bitsOf_4 : decode cX12_bitsOf 4 = .ok (.iload_n 2, 1) := by decide +kernel
theorem dX12_bitsOf_5 : decode cX12_bitsOf 5 = .ok (.bipush 16, 2) := by decide +kernel
theorem dX12_bitsOf_7 : decode cX12_bitsOf 7 = .ok (.if_icmp .ge 17, 3) := by decide +kernel
theorem dX12_bitsOf_10 : decode cX12_bitsOf 10 = .ok (.iload_n 1, 1) := by decide +kernel
theorem dX12_bitsOf_11 : decode cX12_bitsOf 11 = .ok (.iload_n 0, 1) := by decide +kernel
theorem dX12_bitsOf_12 : decode cX12_bitsOf 12 = .ok (.iload_n 2, 1) := by decide +kernel
theorem dX12_bitsOf_13 : decode cX12_bitsOf 13 = .ok (.ishr, 1) := by decide +kernel
theorem dX12_bitsOf_14 : decode cX12_bitsOf 14 = .ok (.iconst 1, 1) := by decide +kernel
theorem dX12_bitsOf_15 : decode cX12_bitsOf 15 = .ok (.iand, 1) := by decide +kernel
theorem dX12_bitsOf_16 : decode cX12_bitsOf 16 = .ok (.iadd, 1) := by decide +kernel
theorem dX12_bitsOf_17 : decode cX12_bitsOf 17 = .ok (.istore_n 1, 1) := by decide +kernel
theorem dX12_bitsOf_18 : decode cX12_bitsOf 18 = .ok (.iinc 2 1, 3) := by decide +kernel
theorem dX12_bitsOf_21 : decode cX12_bitsOf 21 = .ok (.goto (-17), 3) := by decide +kernel
theorem dX12_bitsOf_24 : decode cX12_bitsOf 24 = .ok (.iload_n 1, 1) := by decide +kernel
theorem dX12_bitsOf_25 : decode cX12_bitsOf 25 = .ok (.ireturn, 1) := by decide +kernel
theorem dX12_isSheet_0 : decode cX12_isSheet 0 = .ok (.iload_n 0, 1) := by decide +kernel
theorem dX12_isSheet_1 : decode cX12_isSheet 1 = .ok (.iconst 0, 1) := by decide +kernel
theorem dX12_isSheet_2 : decode cX12_isSheet 2 = .ok (.iconst 3, 1) := by decide +kernel
theorem dX12_isSheet_3 : decode cX12_isSheet 3 = .ok (.invokestatic 78, 3) := by decide +kernel
theorem dX12_isSheet_6 : decode cX12_isSheet 6 = .ok (.ireturn, 1) := by decide +kernel
theorem dX12_isLane_0 : decode cX12_isLane 0 = .ok (.iload_n 0, 1) := by decide +kernel
theorem dX12_isLane_1 : decode cX12_isLane 1 = .ok (.iconst 0, 1) := by decide +kernel
theorem dX12_isLane_2 : decode cX12_isLane 2 = .ok (.iconst 2, 1) := by decide +kernel
theorem dX12_isLane_3 : decode cX12_isLane 3 = .ok (.invokestatic 78, 3) := by decide +kernel
theorem dX12_isLane_6 : decode cX12_isLane 6 = .ok (.ireturn, 1) := by decide +kernel
theorem dX12_isPerson_0 : decode cX12_isPerson 0 = .ok (.iload_n 1, 1) := by decide +kernel
theorem dX12_isPerson_1 : decode cX12_isPerson 1 = .ok (.ifCond .lt 15, 3) := by decide +kernel
theorem dX12_isPerson_4 : decode cX12_isPerson 4 = .ok (.iload_n 1, 1) := by decide +kernel
theorem dX12_isPerson_5 : decode cX12_isPerson 5 = .ok (.aload_n 0, 1) := by decide +kernel
theorem dX12_isPerson_6 : decode cX12_isPerson 6 = .ok (.getfield 82, 3) := by decide +kernel
theorem dX12_isPerson_9 : decode cX12_isPerson 9 = .ok (.if_icmp .ge 7, 3) := by decide +kernel
theorem dX12_isPerson_12 : decode cX12_isPerson 12 = .ok (.iconst 1, 1) := by decide +kernel
theorem dX12_isPerson_13 : decode cX12_isPerson 13 = .ok (.goto 4, 3) := by decide +kernel
theorem dX12_isPerson_16 : decode cX12_isPerson 16 = .ok (.iconst 0, 1) := by decide +kernel
theorem dX12_isPerson_17 : decode cX12_isPerson 17 = .ok (.ireturn, 1) := by decide +kernel
theorem dX12_isRule_0 : decode cX12_isRule 0 = .ok (.iload_n 0, 1) := by decide +kernel
theorem dX12_isRule_1 : decode cX12_isRule 1 = .ok (.iconst 0, 1) := by decide +kernel
theorem dX12_isRule_2 : decode cX12_isRule 2 = .ok (.iconst 3, 1) := by decide +kernel
theorem dX12_isRule_3 : decode cX12_isRule 3 = .ok (.invokestatic 78, 3) := by decide +kernel
theorem dX12_isRule_6 : decode cX12_isRule 6 = .ok (.ireturn, 1) := by decide +kernel
theorem dX12_net_0 : decode cX12_net 0 = .ok (.aload_n 0, 1) := by decide +kernel
theorem dX12_net_1 : decode cX12_net 1 = .ok (.iconst 0, 1) := by decide +kernel
theorem dX12_net_2 : decode cX12_net 2 = .ok (.putfield 72, 3) := by decide +kernel
theorem dX12_net_5 : decode cX12_net 5 = .ok (.iload_n 1, 1) := by decide +kernel
theorem dX12_net_6 : decode cX12_net 6 = .ok (.invokestatic 85, 3) := by decide +kernel
theorem dX12_net_9 : decode cX12_net 9 = .ok (.ifCond .ne 5, 3) := by decide +kernel
theorem dX12_net_12 : decode cX12_net 12 = .ok (.iconst (-1), 1) := by decide +kernel
theorem dX12_net_13 : decode cX12_net 13 = .ok (.ireturn, 1) := by decide +kernel
theorem dX12_net_14 : decode cX12_net 14 = .ok (.iload_n 2, 1) := by decide +kernel
theorem dX12_net_15 : decode cX12_net 15 = .ok (.invokestatic 89, 3) := by decide +kernel
theorem dX12_net_18 : decode cX12_net 18 = .ok (.ifCond .ne 6, 3) := by decide +kernel
theorem dX12_net_21 : decode cX12_net 21 = .ok (.bipush (-2), 2) := by decide +kernel
theorem dX12_net_23 : decode cX12_net 23 = .ok (.ireturn, 1) := by decide +kernel
theorem dX12_net_24 : decode cX12_net 24 = .ok (.aload_n 0, 1) := by decide +kernel
theorem dX12_net_25 : decode cX12_net 25 = .ok (.getfield 9, 3) := by decide +kernel
theorem dX12_net_28 : decode cX12_net 28 = .ok (.iload_n 1, 1) := by decide +kernel
theorem dX12_net_29 : decode cX12_net 29 = .ok (.iaload, 1) := by decide +kernel
theorem dX12_net_30 : decode cX12_net 30 = .ok (.bipush (-9), 2) := by decide +kernel
theorem dX12_net_32 : decode cX12_net 32 = .ok (.if_icmp .eq 19, 3) := by decide +kernel
theorem dX12_net_35 : decode cX12_net 35 = .ok (.aload_n 0, 1) := by decide +kernel
theorem dX12_net_36 : decode cX12_net 36 = .ok (.getfield 9, 3) := by decide +kernel
theorem dX12_net_39 : decode cX12_net 39 = .ok (.iload_n 1, 1) := by decide +kernel
theorem dX12_net_40 : decode cX12_net 40 = .ok (.iaload, 1) := by decide +kernel
theorem dX12_net_41 : decode cX12_net 41 = .ok (.iload_n 2, 1) := by decide +kernel
theorem dX12_net_42 : decode cX12_net 42 = .ok (.if_icmp .eq 9, 3) := by decide +kernel
theorem dX12_net_45 : decode cX12_net 45 = .ok (.aload_n 0, 1) := by decide +kernel
theorem dX12_net_46 : decode cX12_net 46 = .ok (.iconst 2, 1) := by decide +kernel
theorem dX12_net_47 : decode cX12_net 47 = .ok (.invokevirtual 92, 3) := by decide +kernel
theorem dX12_net_50 : decode cX12_net 50 = .ok (.ireturn, 1) := by decide +kernel
theorem dX12_net_51 : decode cX12_net 51 = .ok (.aload_n 0, 1) := by decide +kernel
theorem dX12_net_52 : decode cX12_net 52 = .ok (.getfield 9, 3) := by decide +kernel
theorem dX12_net_55 : decode cX12_net 55 = .ok (.iload_n 1, 1) := by decide +kernel
theorem dX12_net_56 : decode cX12_net 56 = .ok (.iaload, 1) := by decide +kernel
theorem dX12_net_57 : decode cX12_net 57 = .ok (.bipush (-9), 2) := by decide +kernel
theorem dX12_net_59 : decode cX12_net 59 = .ok (.if_icmp .ne 9, 3) := by decide +kernel
theorem dX12_net_62 : decode cX12_net 62 = .ok (.aload_n 0, 1) := by decide +kernel
theorem dX12_net_63 : decode cX12_net 63 = .ok (.iconst 1, 1) := by decide +kernel
theorem dX12_net_64 : decode cX12_net 64 = .ok (.invokevirtual 92, 3) := by decide +kernel
theorem dX12_net_67 : decode cX12_net 67 = .ok (.ireturn, 1) := by decide +kernel
theorem dX12_net_68 : decode cX12_net 68 = .ok (.iload 4, 2) := by decide +kernel
theorem dX12_net_70 : decode cX12_net 70 = .ok (.ifCond .ge 9, 3) := by decide +kernel
theorem dX12_net_73 : decode cX12_net 73 = .ok (.aload_n 0, 1) := by decide +kernel
theorem dX12_net_74 : decode cX12_net 74 = .ok (.iconst 4, 1) := by decide +kernel
theorem dX12_net_75 : decode cX12_net 75 = .ok (.invokevirtual 92, 3) := by decide +kernel
theorem dX12_net_78 : decode cX12_net 78 = .ok (.ireturn, 1) := by decide +kernel
theorem dX12_net_79 : decode cX12_net 79 = .ok (.iload_n 3, 1) := by decide +kernel
theorem dX12_net_80 : decode cX12_net 80 = .ok (.ifCond .lt 26, 3) := by decide +kernel
theorem dX12_net_83 : decode cX12_net 83 = .ok (.iload_n 3, 1) := by decide +kernel
theorem dX12_net_84 : decode cX12_net 84 = .ok (.aload_n 0, 1) := by decide +kernel
theorem dX12_net_85 : decode cX12_net 85 = .ok (.getfield 13, 3) := by decide +kernel
theorem dX12_net_88 : decode cX12_net 88 = .ok (.iload_n 1, 1) := by decide +kernel
theorem dX12_net_89 : decode cX12_net 89 = .ok (.iaload, 1) := by decide +kernel
theorem dX12_net_90 : decode cX12_net 90 = .ok (.if_icmp .gt 16, 3) := by decide +kernel
theorem dX12_net_93 : decode cX12_net 93 = .ok (.iload 4, 2) := by decide +kernel
theorem dX12_net_95 : decode cX12_net 95 = .ok (.aload_n 0, 1) := by decide +kernel
theorem dX12_net_96 : decode cX12_net 96 = .ok (.getfield 13, 3) := by decide +kernel
theorem dX12_net_99 : decode cX12_net 99 = .ok (.iload_n 1, 1) := by decide +kernel
theorem dX12_net_100 : decode cX12_net 100 = .ok (.iaload, 1) := by decide +kernel
theorem dX12_net_101 : decode cX12_net 101 = .ok (.iload_n 3, 1) := by decide +kernel
theorem dX12_net_102 : decode cX12_net 102 = .ok (.isub, 1) := by decide +kernel
theorem dX12_net_103 : decode cX12_net 103 = .ok (.if_icmp .le 9, 3) := by decide +kernel
theorem dX12_net_106 : decode cX12_net 106 = .ok (.aload_n 0, 1) := by decide +kernel
theorem dX12_net_107 : decode cX12_net 107 = .ok (.iconst 3, 1) := by decide +kernel
theorem dX12_net_108 : decode cX12_net 108 = .ok (.invokevirtual 92, 3) := by decide +kernel
theorem dX12_net_111 : decode cX12_net 111 = .ok (.ireturn, 1) := by decide +kernel
theorem dX12_net_112 : decode cX12_net 112 = .ok (.bipush 60, 2) := by decide +kernel
theorem dX12_net_114 : decode cX12_net 114 = .ok (.iload_n 1, 1) := by decide +kernel
theorem dX12_net_115 : decode cX12_net 115 = .ok (.imul, 1) := by decide +kernel
theorem dX12_net_116 : decode cX12_net 116 = .ok (.iload_n 3, 1) := by decide +kernel
theorem dX12_net_117 : decode cX12_net 117 = .ok (.iadd, 1) := by decide +kernel
theorem dX12_net_118 : decode cX12_net 118 = .ok (.istore 5, 2) := by decide +kernel
theorem dX12_net_120 : decode cX12_net 120 = .ok (.aload_n 0, 1) := by decide +kernel
theorem dX12_net_121 : decode cX12_net 121 = .ok (.iload 5, 2) := by decide +kernel
theorem dX12_net_123 : decode cX12_net 123 = .ok (.iload 4, 2) := by decide +kernel
theorem dX12_net_125 : decode cX12_net 125 = .ok (.invokevirtual 96, 3) := by decide +kernel
theorem dX12_net_128 : decode cX12_net 128 = .ok (.istore 6, 2) := by decide +kernel
theorem dX12_net_130 : decode cX12_net 130 = .ok (.iload 6, 2) := by decide +kernel
theorem dX12_net_132 : decode cX12_net 132 = .ok (.bipush (-9), 2) := by decide +kernel
theorem dX12_net_134 : decode cX12_net 134 = .ok (.if_icmp .eq 9, 3) := by decide +kernel
theorem dX12_net_137 : decode cX12_net 137 = .ok (.bipush (-100), 2) := by decide +kernel
theorem dX12_net_139 : decode cX12_net 139 = .ok (.iload 6, 2) := by decide +kernel
theorem dX12_net_141 : decode cX12_net 141 = .ok (.isub, 1) := by decide +kernel
theorem dX12_net_142 : decode cX12_net 142 = .ok (.ireturn, 1) := by decide +kernel
theorem dX12_net_143 : decode cX12_net 143 = .ok (.aload_n 0, 1) := by decide +kernel
theorem dX12_net_144 : decode cX12_net 144 = .ok (.aload_n 0, 1) := by decide +kernel
theorem dX12_net_145 : decode cX12_net 145 = .ok (.getfield 100, 3) := by decide +kernel
theorem dX12_net_148 : decode cX12_net 148 = .ok (.putfield 82, 3) := by decide +kernel
theorem dX12_net_151 : decode cX12_net 151 = .ok (.iconst 0, 1) := by decide +kernel
theorem dX12_net_152 : decode cX12_net 152 = .ok (.istore 7, 2) := by decide +kernel
theorem dX12_net_154 : decode cX12_net 154 = .ok (.iload 7, 2) := by decide +kernel
theorem dX12_net_156 : decode cX12_net 156 = .ok (.aload_n 0, 1) := by decide +kernel
theorem dX12_net_157 : decode cX12_net 157 = .ok (.getfield 100, 3) := by decide +kernel
theorem dX12_net_160 : decode cX12_net 160 = .ok (.if_icmp .ge 23, 3) := by decide +kernel
theorem dX12_net_163 : decode cX12_net 163 = .ok (.aload_n 0, 1) := by decide +kernel
theorem dX12_net_164 : decode cX12_net 164 = .ok (.getfield 19, 3) := by decide +kernel
theorem dX12_net_167 : decode cX12_net 167 = .ok (.iload 7, 2) := by decide +kernel
theorem dX12_net_169 : decode cX12_net 169 = .ok (.aload_n 0, 1) := by decide +kernel
theorem dX12_net_170 : decode cX12_net 170 = .ok (.getfield 22, 3) := by decide +kernel
theorem dX12_net_173 : decode cX12_net 173 = .ok (.iload 7, 2) := by decide +kernel
theorem dX12_net_175 : decode cX12_net 175 = .ok (.iaload, 1) := by decide +kernel
theorem dX12_net_176 : decode cX12_net 176 = .ok (.iastore, 1) := by decide +kernel
theorem dX12_net_177 : decode cX12_net 177 = .ok (.iinc 7 1, 3) := by decide +kernel
theorem dX12_net_180 : decode cX12_net 180 = .ok (.goto (-26), 3) := by decide +kernel
theorem dX12_net_183 : decode cX12_net 183 = .ok (.aload_n 0, 1) := by decide +kernel
theorem dX12_net_184 : decode cX12_net 184 = .ok (.iconst 0, 1) := by decide +kernel
theorem dX12_net_185 : decode cX12_net 185 = .ok (.putfield 103, 3) := by decide +kernel
theorem dX12_net_188 : decode cX12_net 188 = .ok (.aload_n 0, 1) := by decide +kernel
theorem dX12_net_189 : decode cX12_net 189 = .ok (.getfield 82, 3) := by decide +kernel
theorem dX12_net_192 : decode cX12_net 192 = .ok (.ireturn, 1) := by decide +kernel
theorem dX12_readAll_0 : decode cX12_readAll 0 = .ok (.aload_n 0, 1) := by decide +kernel
theorem dX12_readAll_1 : decode cX12_readAll 1 = .ok (.iconst 0, 1) := by decide +kernel
theorem dX12_readAll_2 : decode cX12_readAll 2 = .ok (.putfield 100, 3) := by decide +kernel
theorem dX12_readAll_5 : decode cX12_readAll 5 = .ok (.iconst 0, 1) := by decide +kernel
theorem dX12_readAll_6 : decode cX12_readAll 6 = .ok (.istore_n 3, 1) := by decide +kernel
theorem dX12_readAll_7 : decode cX12_readAll 7 = .ok (.iconst 1, 1) := by decide +kernel
theorem dX12_readAll_8 : decode cX12_readAll 8 = .ok (.istore 4, 2) := by decide +kernel
theorem dX12_readAll_10 : decode cX12_readAll 10 = .ok (.iload 4, 2) := by decide +kernel
theorem dX12_readAll_12 : decode cX12_readAll 12 = .ok (.ifCond .eq 170, 3) := by decide +kernel
theorem dX12_readAll_15 : decode cX12_readAll 15 = .ok (.iload_n 3, 1) := by decide +kernel
theorem dX12_readAll_16 : decode cX12_readAll 16 = .ok (.iload_n 2, 1) := by decide +kernel
theorem dX12_readAll_17 : decode cX12_readAll 17 = .ok (.if_icmp .eq 16, 3) := by decide +kernel
theorem dX12_readAll_20 : decode cX12_readAll 20 = .ok (.aload_n 0, 1) := by decide +kernel
theorem dX12_readAll_21 : decode cX12_readAll 21 = .ok (.getfield 16, 3) := by decide +kernel
theorem dX12_readAll_24 : decode cX12_readAll 24 = .ok (.iload_n 1, 1) := by decide +kernel
theorem dX12_readAll_25 : decode cX12_readAll 25 = .ok (.iload_n 3, 1) := by decide +kernel
theorem dX12_readAll_26 : decode cX12_readAll 26 = .ok (.iadd, 1) := by decide +kernel
theorem dX12_readAll_27 : decode cX12_readAll 27 = .ok (.iaload, 1) := by decide +kernel
theorem dX12_readAll_28 : decode cX12_readAll 28 = .ok (.bipush 112, 2) := by decide +kernel
theorem dX12_readAll_30 : decode cX12_readAll 30 = .ok (.if_icmp .eq 5, 3) := by decide +kernel
theorem dX12_readAll_33 : decode cX12_readAll 33 = .ok (.iload_n 3, 1) := by decide +kernel
theorem dX12_readAll_34 : decode cX12_readAll 34 = .ok (.ireturn, 1) := by decide +kernel
theorem dX12_readAll_35 : decode cX12_readAll 35 = .ok (.iinc 3 1, 3) := by decide +kernel
theorem dX12_readAll_38 : decode cX12_readAll 38 = .ok (.iconst 0, 1) := by decide +kernel
theorem dX12_readAll_39 : decode cX12_readAll 39 = .ok (.istore 5, 2) := by decide +kernel
theorem dX12_readAll_41 : decode cX12_readAll 41 = .ok (.iload_n 3, 1) := by decide +kernel
theorem dX12_readAll_42 : decode cX12_readAll 42 = .ok (.iload_n 2, 1) := by decide +kernel
theorem dX12_readAll_43 : decode cX12_readAll 43 = .ok (.if_icmp .ge 75, 3) := by decide +kernel
theorem dX12_readAll_46 : decode cX12_readAll 46 = .ok (.aload_n 0, 1) := by decide +kernel
theorem dX12_readAll_47 : decode cX12_readAll 47 = .ok (.getfield 16, 3) := by decide +kernel
theorem dX12_readAll_50 : decode cX12_readAll 50 = .ok (.iload_n 1, 1) := by decide +kernel
theorem dX12_readAll_51 : decode cX12_readAll 51 = .ok (.iload_n 3, 1) := by decide +kernel
theorem dX12_readAll_52 : decode cX12_readAll 52 = .ok (.iadd, 1) := by decide +kernel
theorem dX12_readAll_53 : decode cX12_readAll 53 = .ok (.iaload, 1) := by decide +kernel
theorem dX12_readAll_54 : decode cX12_readAll 54 = .ok (.bipush 59, 2) := by decide +kernel
theorem dX12_readAll_56 : decode cX12_readAll 56 = .ok (.if_icmp .eq 62, 3) := by decide +kernel
theorem dX12_readAll_59 : decode cX12_readAll 59 = .ok (.aload_n 0, 1) := by decide +kernel
theorem dX12_readAll_60 : decode cX12_readAll 60 = .ok (.getfield 16, 3) := by decide +kernel
theorem dX12_readAll_63 : decode cX12_readAll 63 = .ok (.iload_n 1, 1) := by decide +kernel
theorem dX12_readAll_64 : decode cX12_readAll 64 = .ok (.iload_n 3, 1) := by decide +kernel
theorem dX12_readAll_65 : decode cX12_readAll 65 = .ok (.iadd, 1) := by decide +kernel
theorem dX12_readAll_66 : decode cX12_readAll 66 = .ok (.iaload, 1) := by decide +kernel
theorem dX12_readAll_67 : decode cX12_readAll 67 = .ok (.bipush 48, 2) := by decide +kernel
theorem dX12_readAll_69 : decode cX12_readAll 69 = .ok (.isub, 1) := by decide +kernel
theorem dX12_readAll_70 : decode cX12_readAll 70 = .ok (.istore 6, 2) := by decide +kernel
theorem dX12_readAll_72 : decode cX12_readAll 72 = .ok (.iload 6, 2) := by decide +kernel
theorem dX12_readAll_74 : decode cX12_readAll 74 = .ok (.iconst 0, 1) := by decide +kernel
theorem dX12_readAll_75 : decode cX12_readAll 75 = .ok (.iconst 3, 1) := by decide +kernel
theorem dX12_readAll_76 : decode cX12_readAll 76 = .ok (.invokestatic 78, 3) := by decide +kernel
theorem dX12_readAll_79 : decode cX12_readAll 79 = .ok (.ifCond .eq 22, 3) := by decide +kernel
theorem dX12_readAll_82 : decode cX12_readAll 82 = .ok (.iload 6, 2) := by decide +kernel
theorem dX12_readAll_84 : decode cX12_readAll 84 = .ok (.aload_n 0, 1) := by decide +kernel
theorem dX12_readAll_85 : decode cX12_readAll 85 = .ok (.getfield 100, 3) := by decide +kernel
theorem dX12_readAll_88 : decode cX12_readAll 88 = .ok (.if_icmp .eq 13, 3) := by decide +kernel
theorem dX12_readAll_91 : decode cX12_readAll 91 = .ok (.iload 5, 2) := by decide +kernel
theorem dX12_readAll_93 : decode cX12_readAll 93 = .ok (.iload 6, 2) := by decide +kernel
theorem dX12_readAll_95 : decode cX12_readAll 95 = .ok (.invokestatic 106, 3) := by decide +kernel
theorem dX12_readAll_98 : decode cX12_readAll 98 = .ok (.ifCond .eq 5, 3) := by decide +kernel
theorem dX12_readAll_101 : decode cX12_readAll 101 = .ok (.iload_n 3, 1) := by decide +kernel
theorem dX12_readAll_102 : decode cX12_readAll 102 = .ok (.ireturn, 1) := by decide +kernel
theorem dX12_readAll_103 : decode cX12_readAll 103 = .ok (.iload 5, 2) := by decide +kernel
theorem dX12_readAll_105 : decode cX12_readAll 105 = .ok (.iconst 1, 1) := by decide +kernel
theorem dX12_readAll_106 : decode cX12_readAll 106 = .ok (.iload 6, 2) := by decide +kernel
theorem dX12_readAll_108 : decode cX12_readAll 108 = .ok (.ishl, 1) := by decide +kernel
theorem dX12_readAll_109 : decode cX12_readAll 109 = .ok (.ior, 1) := by decide +kernel
theorem dX12_readAll_110 : decode cX12_readAll 110 = .ok (.istore 5, 2) := by decide +kernel
theorem dX12_readAll_112 : decode cX12_readAll 112 = .ok (.iinc 3 1, 3) := by decide +kernel
theorem dX12_readAll_115 : decode cX12_readAll 115 = .ok (.goto (-74), 3) := by decide +kernel
theorem dX12_readAll_118 : decode cX12_readAll 118 = .ok (.aload_n 0, 1) := by decide +kernel
theorem dX12_readAll_119 : decode cX12_readAll 119 = .ok (.getfield 22, 3) := by decide +kernel
theorem dX12_readAll_122 : decode cX12_readAll 122 = .ok (.aload_n 0, 1) := by decide +kernel
theorem dX12_readAll_123 : decode cX12_readAll 123 = .ok (.getfield 100, 3) := by decide +kernel
theorem dX12_readAll_126 : decode cX12_readAll 126 = .ok (.iload 5, 2) := by decide +kernel
theorem dX12_readAll_128 : decode cX12_readAll 128 = .ok (.iastore, 1) := by decide +kernel
theorem dX12_readAll_129 : decode cX12_readAll 129 = .ok (.aload_n 0, 1) := by decide +kernel
theorem dX12_readAll_130 : decode cX12_readAll 130 = .ok (.dup, 1) := by decide +kernel
theorem dX12_readAll_131 : decode cX12_readAll 131 = .ok (.getfield 100, 3) := by decide +kernel
theorem dX12_readAll_134 : decode cX12_readAll 134 = .ok (.iconst 1, 1) := by decide +kernel
theorem dX12_readAll_135 : decode cX12_readAll 135 = .ok (.iadd, 1) := by decide +kernel
theorem dX12_readAll_136 : decode cX12_readAll 136 = .ok (.putfield 100, 3) := by decide +kernel
theorem dX12_readAll_139 : decode cX12_readAll 139 = .ok (.iload_n 3, 1) := by decide +kernel
theorem dX12_readAll_140 : decode cX12_readAll 140 = .ok (.iload_n 2, 1) := by decide +kernel
theorem dX12_readAll_141 : decode cX12_readAll 141 = .ok (.if_icmp .ge 7, 3) := by decide +kernel
theorem dX12_readAll_144 : decode cX12_readAll 144 = .ok (.iconst 1, 1) := by decide +kernel
theorem dX12_readAll_145 : decode cX12_readAll 145 = .ok (.goto 4, 3) := by decide +kernel
theorem dX12_readAll_148 : decode cX12_readAll 148 = .ok (.iconst 0, 1) := by decide +kernel
theorem dX12_readAll_149 : decode cX12_readAll 149 = .ok (.istore 4, 2) := by decide +kernel
theorem dX12_readAll_151 : decode cX12_readAll 151 = .ok (.iload 4, 2) := by decide +kernel
theorem dX12_readAll_153 : decode cX12_readAll 153 = .ok (.ifCond .eq 13, 3) := by decide +kernel
theorem dX12_readAll_156 : decode cX12_readAll 156 = .ok (.aload_n 0, 1) := by decide +kernel
theorem dX12_readAll_157 : decode cX12_readAll 157 = .ok (.getfield 100, 3) := by decide +kernel
theorem dX12_readAll_160 : decode cX12_readAll 160 = .ok (.iconst 4, 1) := by decide +kernel
theorem dX12_readAll_161 : decode cX12_readAll 161 = .ok (.if_icmp .ne 5, 3) := by decide +kernel
theorem dX12_readAll_164 : decode cX12_readAll 164 = .ok (.iload_n 3, 1) := by decide +kernel
theorem dX12_readAll_165 : decode cX12_readAll 165 = .ok (.ireturn, 1) := by decide +kernel
theorem dX12_readAll_166 : decode cX12_readAll 166 = .ok (.iload_n 3, 1) := by decide +kernel
theorem dX12_readAll_167 : decode cX12_readAll 167 = .ok (.iload 4, 2) := by decide +kernel
theorem dX12_readAll_169 : decode cX12_readAll 169 = .ok (.ifCond .eq 7, 3) := by decide +kernel
theorem dX12_readAll_172 : decode cX12_readAll 172 = .ok (.iconst 1, 1) := by decide +kernel
theorem dX12_readAll_173 : decode cX12_readAll 173 = .ok (.goto 4, 3) := by decide +kernel
theorem dX12_readAll_176 : decode cX12_readAll 176 = .ok (.iconst 0, 1) := by decide +kernel
theorem dX12_readAll_177 : decode cX12_readAll 177 = .ok (.iadd, 1) := by decide +kernel
theorem dX12_readAll_178 : decode cX12_readAll 178 = .ok (.istore_n 3, 1) := by decide +kernel
theorem dX12_readAll_179 : decode cX12_readAll 179 = .ok (.goto (-169), 3) := by decide +kernel
theorem dX12_readAll_182 : decode cX12_readAll 182 = .ok (.iconst 0, 1) := by decide +kernel
theorem dX12_readAll_183 : decode cX12_readAll 183 = .ok (.istore 5, 2) := by decide +kernel
theorem dX12_readAll_185 : decode cX12_readAll 185 = .ok (.iload 5, 2) := by decide +kernel
theorem dX12_readAll_187 : decode cX12_readAll 187 = .ok (.iload_n 2, 1) := by decide +kernel
theorem dX12_readAll_188 : decode cX12_readAll 188 = .ok (.if_icmp .ge 39, 3) := by decide +kernel
theorem dX12_readAll_191 : decode cX12_readAll 191 = .ok (.aload_n 0, 1) := by decide +kernel
theorem dX12_readAll_192 : decode cX12_readAll 192 = .ok (.getfield 16, 3) := by decide +kernel
theorem dX12_readAll_195 : decode cX12_readAll 195 = .ok (.iload_n 1, 1) := by decide +kernel
theorem dX12_readAll_196 : decode cX12_readAll 196 = .ok (.iload 5, 2) := by decide +kernel
theorem dX12_readAll_198 : decode cX12_readAll 198 = .ok (.iadd, 1) := by decide +kernel
theorem dX12_readAll_199 : decode cX12_readAll 199 = .ok (.iaload, 1) := by decide +kernel
theorem dX12_readAll_200 : decode cX12_readAll 200 = .ok (.bipush 48, 2) := by decide +kernel
theorem dX12_readAll_202 : decode cX12_readAll 202 = .ok (.isub, 1) := by decide +kernel
theorem dX12_readAll_203 : decode cX12_readAll 203 = .ok (.istore 6, 2) := by decide +kernel
theorem dX12_readAll_205 : decode cX12_readAll 205 = .ok (.iload 6, 2) := by decide +kernel
theorem dX12_readAll_207 : decode cX12_readAll 207 = .ok (.aload_n 0, 1) := by decide +kernel
theorem dX12_readAll_208 : decode cX12_readAll 208 = .ok (.getfield 100, 3) := by decide +kernel
theorem dX12_readAll_211 : decode cX12_readAll 211 = .ok (.iconst 3, 1) := by decide +kernel
theorem dX12_readAll_212 : decode cX12_readAll 212 = .ok (.invokestatic 78, 3) := by decide +kernel
theorem dX12_readAll_215 : decode cX12_readAll 215 = .ok (.ifCond .eq 6, 3) := by decide +kernel
theorem dX12_readAll_218 : decode cX12_readAll 218 = .ok (.iload 5, 2) := by decide +kernel
theorem dX12_readAll_220 : decode cX12_readAll 220 = .ok (.ireturn, 1) := by decide +kernel
theorem dX12_readAll_221 : decode cX12_readAll 221 = .ok (.iinc 5 1, 3) := by decide +kernel
theorem dX12_readAll_224 : decode cX12_readAll 224 = .ok (.goto (-39), 3) := by decide +kernel
theorem dX12_readAll_227 : decode cX12_readAll 227 = .ok (.bipush (-9), 2) := by decide +kernel
theorem dX12_readAll_229 : decode cX12_readAll 229 = .ok (.ireturn, 1) := by decide +kernel
theorem dX12_of_0 : decode cX12_of 0 = .ok (.iload_n 0, 1) := by decide +kernel
theorem dX12_of_1 : decode cX12_of 1 = .ok (.iconst 4, 1) := by decide +kernel
theorem dX12_of_2 : decode cX12_of 2 = .ok (.iload_n 1, 1) := by decide +kernel
theorem dX12_of_3 : decode cX12_of 3 = .ok (.imul, 1) := by decide +kernel
theorem dX12_of_4 : decode cX12_of 4 = .ok (.ishr, 1) := by decide +kernel
theorem dX12_of_5 : decode cX12_of 5 = .ok (.bipush 15, 2) := by decide +kernel
theorem dX12_of_7 : decode cX12_of 7 = .ok (.iand, 1) := by decide +kernel
theorem dX12_of_8 : decode cX12_of 8 = .ok (.ireturn, 1) := by decide +kernel
theorem dX12_numbersOf_0 : decode cX12_numbersOf 0 = .ok (.iconst 0, 1) := by decide +kernel
theorem dX12_numbersOf_1 : decode cX12_numbersOf 1 = .ok (.istore_n 3, 1) := by decide +kernel
theorem dX12_numbersOf_2 : decode cX12_numbersOf 2 = .ok (.iconst 0, 1) := by decide +kernel
theorem dX12_numbersOf_3 : decode cX12_numbersOf 3 = .ok (.istore 4, 2) := by decide +kernel
theorem dX12_numbersOf_5 : decode cX12_numbersOf 5 = .ok (.iload 4, 2) := by decide +kernel
theorem dX12_numbersOf_7 : decode cX12_numbersOf 7 = .ok (.iconst 4, 1) := by decide +kernel
theorem dX12_numbersOf_8 : decode cX12_numbersOf 8 = .ok (.if_icmp .ge 38, 3) := by decide +kernel
theorem dX12_numbersOf_11 : decode cX12_numbersOf 11 = .ok (.iload_n 3, 1) := by decide +kernel
theorem dX12_numbersOf_12 : decode cX12_numbersOf 12 = .ok (.iload_n 1, 1) := by decide +kernel
theorem dX12_numbersOf_13 : decode cX12_numbersOf 13 = .ok (.iload_n 2, 1) := by decide +kernel
theorem dX12_numbersOf_14 : decode cX12_numbersOf 14 = .ok (.invokestatic 110, 3) := by decide +kernel
theorem dX12_numbersOf_17 : decode cX12_numbersOf 17 = .ok (.iload 4, 2) := by decide +kernel
theorem dX12_numbersOf_19 : decode cX12_numbersOf 19 = .ok (.invokestatic 106, 3) := by decide +kernel
theorem dX12_numbersOf_22 : decode cX12_numbersOf 22 = .ok (.ifCond .eq 15, 3) := by decide +kernel
theorem dX12_numbersOf_25 : decode cX12_numbersOf 25 = .ok (.aload_n 0, 1) := by decide +kernel
theorem dX12_numbersOf_26 : decode cX12_numbersOf 26 = .ok (.iload 4, 2) := by decide +kernel
theorem dX12_numbersOf_28 : decode cX12_numbersOf 28 = .ok (.iaload, 1) := by decide +kernel
theorem dX12_numbersOf_29 : decode cX12_numbersOf 29 = .ok (.iconst 1, 1) := by decide +kernel
theorem dX12_numbersOf_30 : decode cX12_numbersOf 30 = .ok (.iload 4, 2) := by decide +kernel
theorem dX12_numbersOf_32 : decode cX12_numbersOf 32 = .ok (.ishl, 1) := by decide +kernel
theorem dX12_numbersOf_33 : decode cX12_numbersOf 33 = .ok (.ior, 1) := by decide +kernel
theorem dX12_numbersOf_34 : decode cX12_numbersOf 34 = .ok (.goto 4, 3) := by decide +kernel
theorem dX12_numbersOf_37 : decode cX12_numbersOf 37 = .ok (.iconst 0, 1) := by decide +kernel
theorem dX12_numbersOf_38 : decode cX12_numbersOf 38 = .ok (.ior, 1) := by decide +kernel
theorem dX12_numbersOf_39 : decode cX12_numbersOf 39 = .ok (.istore_n 3, 1) := by decide +kernel
theorem dX12_numbersOf_40 : decode cX12_numbersOf 40 = .ok (.iinc 4 1, 3) := by decide +kernel
theorem dX12_numbersOf_43 : decode cX12_numbersOf 43 = .ok (.goto (-38), 3) := by decide +kernel
theorem dX12_numbersOf_46 : decode cX12_numbersOf 46 = .ok (.iload_n 3, 1) := by decide +kernel
theorem dX12_numbersOf_47 : decode cX12_numbersOf 47 = .ok (.ireturn, 1) := by decide +kernel
theorem dX12_afterCall_0 : decode cX12_afterCall 0 = .ok (.iload_n 0, 1) := by decide +kernel
theorem dX12_afterCall_1 : decode cX12_afterCall 1 = .ok (.iload_n 1, 1) := by decide +kernel
theorem dX12_afterCall_2 : decode cX12_afterCall 2 = .ok (.invokestatic 110, 3) := by decide +kernel
theorem dX12_afterCall_5 : decode cX12_afterCall 5 = .ok (.iload_n 0, 1) := by decide +kernel
theorem dX12_afterCall_6 : decode cX12_afterCall 6 = .ok (.iload_n 2, 1) := by decide +kernel
theorem dX12_afterCall_7 : decode cX12_afterCall 7 = .ok (.invokestatic 110, 3) := by decide +kernel
theorem dX12_afterCall_10 : decode cX12_afterCall 10 = .ok (.ior, 1) := by decide +kernel
theorem dX12_afterCall_11 : decode cX12_afterCall 11 = .ok (.istore_n 3, 1) := by decide +kernel
theorem dX12_afterCall_12 : decode cX12_afterCall 12 = .ok (.iload_n 0, 1) := by decide +kernel
theorem dX12_afterCall_13 : decode cX12_afterCall 13 = .ok (.iload_n 3, 1) := by decide +kernel
theorem dX12_afterCall_14 : decode cX12_afterCall 14 = .ok (.iconst 4, 1) := by decide +kernel
theorem dX12_afterCall_15 : decode cX12_afterCall 15 = .ok (.iload_n 1, 1) := by decide +kernel
theorem dX12_afterCall_16 : decode cX12_afterCall 16 = .ok (.imul, 1) := by decide +kernel
theorem dX12_afterCall_17 : decode cX12_afterCall 17 = .ok (.ishl, 1) := by decide +kernel
theorem dX12_afterCall_18 : decode cX12_afterCall 18 = .ok (.ior, 1) := by decide +kernel
theorem dX12_afterCall_19 : decode cX12_afterCall 19 = .ok (.iload_n 3, 1) := by decide +kernel
theorem dX12_afterCall_20 : decode cX12_afterCall 20 = .ok (.iconst 4, 1) := by decide +kernel
theorem dX12_afterCall_21 : decode cX12_afterCall 21 = .ok (.iload_n 2, 1) := by decide +kernel
theorem dX12_afterCall_22 : decode cX12_afterCall 22 = .ok (.imul, 1) := by decide +kernel
theorem dX12_afterCall_23 : decode cX12_afterCall 23 = .ok (.ishl, 1) := by decide +kernel
theorem dX12_afterCall_24 : decode cX12_afterCall 24 = .ok (.ior, 1) := by decide +kernel
theorem dX12_afterCall_25 : decode cX12_afterCall 25 = .ok (.ireturn, 1) := by decide +kernel
theorem dX12_startOf_0 : decode cX12_startOf 0 = .ok (.ldc 113, 2) := by decide +kernel
theorem dX12_startOf_2 : decode cX12_startOf 2 = .ok (.iconst 1, 1) := by decide +kernel
theorem dX12_startOf_3 : decode cX12_startOf 3 = .ok (.iconst 4, 1) := by decide +kernel
theorem dX12_startOf_4 : decode cX12_startOf 4 = .ok (.iload_n 1, 1) := by decide +kernel
theorem dX12_startOf_5 : decode cX12_startOf 5 = .ok (.imul, 1) := by decide +kernel
theorem dX12_startOf_6 : decode cX12_startOf 6 = .ok (.ishl, 1) := by decide +kernel
theorem dX12_startOf_7 : decode cX12_startOf 7 = .ok (.iconst 1, 1) := by decide +kernel
theorem dX12_startOf_8 : decode cX12_startOf 8 = .ok (.isub, 1) := by decide +kernel
theorem dX12_startOf_9 : decode cX12_startOf 9 = .ok (.iand, 1) := by decide +kernel
theorem dX12_startOf_10 : decode cX12_startOf 10 = .ok (.ireturn, 1) := by decide +kernel
theorem dX12_areExperts_0 : decode cX12_areExperts 0 = .ok (.iconst 0, 1) := by decide +kernel
theorem dX12_areExperts_1 : decode cX12_areExperts 1 = .ok (.istore_n 3, 1) := by decide +kernel
theorem dX12_areExperts_2 : decode cX12_areExperts 2 = .ok (.iload_n 3, 1) := by decide +kernel
theorem dX12_areExperts_3 : decode cX12_areExperts 3 = .ok (.iload_n 2, 1) := by decide +kernel
theorem dX12_areExperts_4 : decode cX12_areExperts 4 = .ok (.if_icmp .ge 24, 3) := by decide +kernel
theorem dX12_areExperts_7 : decode cX12_areExperts 7 = .ok (.iload_n 1, 1) := by decide +kernel
theorem dX12_areExperts_8 : decode cX12_areExperts 8 = .ok (.iload_n 3, 1) := by decide +kernel
theorem dX12_areExperts_9 : decode cX12_areExperts 9 = .ok (.invokestatic 110, 3) := by decide +kernel
theorem dX12_areExperts_12 : decode cX12_areExperts 12 = .ok (.iconst 1, 1) := by decide +kernel
theorem dX12_areExperts_13 : decode cX12_areExperts 13 = .ok (.iload_n 2, 1) := by decide +kernel
theorem dX12_areExperts_14 : decode cX12_areExperts 14 = .ok (.ishl, 1) := by decide +kernel
theorem dX12_areExperts_15 : decode cX12_areExperts 15 = .ok (.iconst 1, 1) := by decide +kernel
theorem dX12_areExperts_16 : decode cX12_areExperts 16 = .ok (.isub, 1) := by decide +kernel
theorem dX12_areExperts_17 : decode cX12_areExperts 17 = .ok (.if_icmp .eq 5, 3) := by decide +kernel
theorem dX12_areExperts_20 : decode cX12_areExperts 20 = .ok (.iconst 0, 1) := by decide +kernel
theorem dX12_areExperts_21 : decode cX12_areExperts 21 = .ok (.ireturn, 1) := by decide +kernel
theorem dX12_areExperts_22 : decode cX12_areExperts 22 = .ok (.iinc 3 1, 3) := by decide +kernel
theorem dX12_areExperts_25 : decode cX12_areExperts 25 = .ok (.goto (-23), 3) := by decide +kernel
theorem dX12_areExperts_28 : decode cX12_areExperts 28 = .ok (.iconst 1, 1) := by decide +kernel
theorem dX12_areExperts_29 : decode cX12_areExperts 29 = .ok (.ireturn, 1) := by decide +kernel
theorem dX12_stateAt_0 : decode cX12_stateAt 0 = .ok (.aload_n 0, 1) := by decide +kernel
theorem dX12_stateAt_1 : decode cX12_stateAt 1 = .ok (.aload_n 0, 1) := by decide +kernel
theorem dX12_stateAt_2 : decode cX12_stateAt 2 = .ok (.getfield 82, 3) := by decide +kernel
theorem dX12_stateAt_5 : decode cX12_stateAt 5 = .ok (.invokevirtual 114, 3) := by decide +kernel
theorem dX12_stateAt_8 : decode cX12_stateAt 8 = .ok (.istore_n 2, 1) := by decide +kernel
theorem dX12_stateAt_9 : decode cX12_stateAt 9 = .ok (.iconst 0, 1) := by decide +kernel
theorem dX12_stateAt_10 : decode cX12_stateAt 10 = .ok (.istore_n 3, 1) := by decide +kernel
theorem dX12_stateAt_11 : decode cX12_stateAt 11 = .ok (.iload_n 3, 1) := by decide +kernel
theorem dX12_stateAt_12 : decode cX12_stateAt 12 = .ok (.iload_n 1, 1) := by decide +kernel
theorem dX12_stateAt_13 : decode cX12_stateAt 13 = .ok (.if_icmp .ge 26, 3) := by decide +kernel
theorem dX12_stateAt_16 : decode cX12_stateAt 16 = .ok (.iload_n 2, 1) := by decide +kernel
theorem dX12_stateAt_17 : decode cX12_stateAt 17 = .ok (.aload_n 0, 1) := by decide +kernel
theorem dX12_stateAt_18 : decode cX12_stateAt 18 = .ok (.getfield 25, 3) := by decide +kernel
theorem dX12_stateAt_21 : decode cX12_stateAt 21 = .ok (.iload_n 3, 1) := by decide +kernel
theorem dX12_stateAt_22 : decode cX12_stateAt 22 = .ok (.iaload, 1) := by decide +kernel
theorem dX12_stateAt_23 : decode cX12_stateAt 23 = .ok (.aload_n 0, 1) := by decide +kernel
theorem dX12_stateAt_24 : decode cX12_stateAt 24 = .ok (.getfield 28, 3) := by decide +kernel
theorem dX12_stateAt_27 : decode cX12_stateAt 27 = .ok (.iload_n 3, 1) := by decide +kernel
theorem dX12_stateAt_28 : decode cX12_stateAt 28 = .ok (.iaload, 1) := by decide +kernel
theorem dX12_stateAt_29 : decode cX12_stateAt 29 = .ok (.invokestatic 117, 3) := by decide +kernel
theorem dX12_stateAt_32 : decode cX12_stateAt 32 = .ok (.istore_n 2, 1) := by decide +kernel
theorem dX12_stateAt_33 : decode cX12_stateAt 33 = .ok (.iinc 3 1, 3) := by decide +kernel
theorem dX12_stateAt_36 : decode cX12_stateAt 36 = .ok (.goto (-25), 3) := by decide +kernel
theorem dX12_stateAt_39 : decode cX12_stateAt 39 = .ok (.iload_n 2, 1) := by decide +kernel
theorem dX12_stateAt_40 : decode cX12_stateAt 40 = .ok (.ireturn, 1) := by decide +kernel
theorem dX12_tokensAfter_0 : decode cX12_tokensAfter 0 = .ok (.iload_n 1, 1) := by decide +kernel
theorem dX12_tokensAfter_1 : decode cX12_tokensAfter 1 = .ok (.iconst 2, 1) := by decide +kernel
theorem dX12_tokensAfter_2 : decode cX12_tokensAfter 2 = .ok (.if_icmp .ne 17, 3) := by decide +kernel
theorem dX12_tokensAfter_5 : decode cX12_tokensAfter 5 = .ok (.iload_n 0, 1) := by decide +kernel
theorem dX12_tokensAfter_6 : decode cX12_tokensAfter 6 = .ok (.iconst 1, 1) := by decide +kernel
theorem dX12_tokensAfter_7 : decode cX12_tokensAfter 7 = .ok (.iload_n 2, 1) := by decide +kernel
theorem dX12_tokensAfter_8 : decode cX12_tokensAfter 8 = .ok (.ishl, 1) := by decide +kernel
theorem dX12_tokensAfter_9 : decode cX12_tokensAfter 9 = .ok (.iconst (-1), 1) := by decide +kernel
theorem dX12_tokensAfter_10 : decode cX12_tokensAfter 10 = .ok (.ixor, 1) := by decide +kernel
theorem dX12_tokensAfter_11 : decode cX12_tokensAfter 11 = .ok (.iand, 1) := by decide +kernel
theorem dX12_tokensAfter_12 : decode cX12_tokensAfter 12 = .ok (.iconst 1, 1) := by decide +kernel
theorem dX12_tokensAfter_13 : decode cX12_tokensAfter 13 = .ok (.iload_n 3, 1) := by decide +kernel
theorem dX12_tokensAfter_14 : decode cX12_tokensAfter 14 = .ok (.ishl, 1) := by decide +kernel
theorem dX12_tokensAfter_15 : decode cX12_tokensAfter 15 = .ok (.ior, 1) := by decide +kernel
theorem dX12_tokensAfter_16 : decode cX12_tokensAfter 16 = .ok (.goto 19, 3) := by decide +kernel
theorem dX12_tokensAfter_19 : decode cX12_tokensAfter 19 = .ok (.iload_n 1, 1) := by decide +kernel
theorem dX12_tokensAfter_20 : decode cX12_tokensAfter 20 = .ok (.iconst 3, 1) := by decide +kernel
theorem dX12_tokensAfter_21 : decode cX12_tokensAfter 21 = .ok (.if_icmp .ne 13, 3) := by decide +kernel
theorem dX12_tokensAfter_24 : decode cX12_tokensAfter 24 = .ok (.iload_n 0, 1) := by decide +kernel
theorem dX12_tokensAfter_25 : decode cX12_tokensAfter 25 = .ok (.iconst 1, 1) := by decide +kernel
theorem dX12_tokensAfter_26 : decode cX12_tokensAfter 26 = .ok (.iload_n 3, 1) := by decide +kernel
theorem dX12_tokensAfter_27 : decode cX12_tokensAfter 27 = .ok (.ishl, 1) := by decide +kernel
theorem dX12_tokensAfter_28 : decode cX12_tokensAfter 28 = .ok (.iconst (-1), 1) := by decide +kernel
theorem dX12_tokensAfter_29 : decode cX12_tokensAfter 29 = .ok (.ixor, 1) := by decide +kernel
theorem dX12_tokensAfter_30 : decode cX12_tokensAfter 30 = .ok (.iand, 1) := by decide +kernel
theorem dX12_tokensAfter_31 : decode cX12_tokensAfter 31 = .ok (.goto 4, 3) := by decide +kernel
theorem dX12_tokensAfter_34 : decode cX12_tokensAfter 34 = .ok (.iload_n 0, 1) := by decide +kernel
theorem dX12_tokensAfter_35 : decode cX12_tokensAfter 35 = .ok (.ireturn, 1) := by decide +kernel
theorem dX12_tokensNow_0 : decode cX12_tokensNow 0 = .ok (.iconst 1, 1) := by decide +kernel
theorem dX12_tokensNow_1 : decode cX12_tokensNow 1 = .ok (.aload_n 0, 1) := by decide +kernel
theorem dX12_tokensNow_2 : decode cX12_tokensNow 2 = .ok (.getfield 82, 3) := by decide +kernel
theorem dX12_tokensNow_5 : decode cX12_tokensNow 5 = .ok (.ishl, 1) := by decide +kernel
theorem dX12_tokensNow_6 : decode cX12_tokensNow 6 = .ok (.iconst 1, 1) := by decide +kernel
theorem dX12_tokensNow_7 : decode cX12_tokensNow 7 = .ok (.isub, 1) := by decide +kernel
theorem dX12_tokensNow_8 : decode cX12_tokensNow 8 = .ok (.istore_n 2, 1) := by decide +kernel
theorem dX12_tokensNow_9 : decode cX12_tokensNow 9 = .ok (.iconst 0, 1) := by decide +kernel
theorem dX12_tokensNow_10 : decode cX12_tokensNow 10 = .ok (.istore_n 3, 1) := by decide +kernel
theorem dX12_tokensNow_11 : decode cX12_tokensNow 11 = .ok (.iload_n 3, 1) := by decide +kernel
theorem dX12_tokensNow_12 : decode cX12_tokensNow 12 = .ok (.aload_n 0, 1) := by decide +kernel
theorem dX12_tokensNow_13 : decode cX12_tokensNow 13 = .ok (.getfield 103, 3) := by decide +kernel
theorem dX12_tokensNow_16 : decode cX12_tokensNow 16 = .ok (.if_icmp .ge 27, 3) := by decide +kernel
theorem dX12_tokensNow_19 : decode cX12_tokensNow 19 = .ok (.iload_n 2, 1) := by decide +kernel
theorem dX12_tokensNow_20 : decode cX12_tokensNow 20 = .ok (.iload_n 1, 1) := by decide +kernel
theorem dX12_tokensNow_21 : decode cX12_tokensNow 21 = .ok (.aload_n 0, 1) := by decide +kernel
theorem dX12_tokensNow_22 : decode cX12_tokensNow 22 = .ok (.getfield 25, 3) := by decide +kernel
theorem dX12_tokensNow_25 : decode cX12_tokensNow 25 = .ok (.iload_n 3, 1) := by decide +kernel
theorem dX12_tokensNow_26 : decode cX12_tokensNow 26 = .ok (.iaload, 1) := by decide +kernel
theorem dX12_tokensNow_27 : decode cX12_tokensNow 27 = .ok (.aload_n 0, 1) := by decide +kernel
theorem dX12_tokensNow_28 : decode cX12_tokensNow 28 = .ok (.getfield 28, 3) := by decide +kernel
theorem dX12_tokensNow_31 : decode cX12_tokensNow 31 = .ok (.iload_n 3, 1) := by decide +kernel
theorem dX12_tokensNow_32 : decode cX12_tokensNow 32 = .ok (.iaload, 1) := by decide +kernel
theorem dX12_tokensNow_33 : decode cX12_tokensNow 33 = .ok (.invokestatic 121, 3) := by decide +kernel
theorem dX12_tokensNow_36 : decode cX12_tokensNow 36 = .ok (.istore_n 2, 1) := by decide +kernel
theorem dX12_tokensNow_37 : decode cX12_tokensNow 37 = .ok (.iinc 3 1, 3) := by decide +kernel
theorem dX12_tokensNow_40 : decode cX12_tokensNow 40 = .ok (.goto (-29), 3) := by decide +kernel
theorem dX12_tokensNow_43 : decode cX12_tokensNow 43 = .ok (.iload_n 2, 1) := by decide +kernel
theorem dX12_tokensNow_44 : decode cX12_tokensNow 44 = .ok (.ireturn, 1) := by decide +kernel
theorem dX12_ofPerson_0 : decode cX12_ofPerson 0 = .ok (.aload_n 0, 1) := by decide +kernel
theorem dX12_ofPerson_1 : decode cX12_ofPerson 1 = .ok (.iload_n 1, 1) := by decide +kernel
theorem dX12_ofPerson_2 : decode cX12_ofPerson 2 = .ok (.invokevirtual 125, 3) := by decide +kernel
theorem dX12_ofPerson_5 : decode cX12_ofPerson 5 = .ok (.ifCond .ne 5, 3) := by decide +kernel
theorem dX12_ofPerson_8 : decode cX12_ofPerson 8 = .ok (.iconst (-1), 1) := by decide +kernel
theorem dX12_ofPerson_9 : decode cX12_ofPerson 9 = .ok (.ireturn, 1) := by decide +kernel
theorem dX12_ofPerson_10 : decode cX12_ofPerson 10 = .ok (.aload_n 0, 1) := by decide +kernel
theorem dX12_ofPerson_11 : decode cX12_ofPerson 11 = .ok (.aload_n 0, 1) := by decide +kernel
theorem dX12_ofPerson_12 : decode cX12_ofPerson 12 = .ok (.getfield 103, 3) := by decide +kernel
theorem dX12_ofPerson_15 : decode cX12_ofPerson 15 = .ok (.invokevirtual 128, 3) := by decide +kernel
theorem dX12_ofPerson_18 : decode cX12_ofPerson 18 = .ok (.istore_n 3, 1) := by decide +kernel
theorem dX12_ofPerson_19 : decode cX12_ofPerson 19 = .ok (.iload_n 2, 1) := by decide +kernel
theorem dX12_ofPerson_20 : decode cX12_ofPerson 20 = .ok (.tableswitch 109 0 5 #[40, 46, 56, 67, 89, 99], 40) := by decide +kernel
theorem dX12_ofPerson_60 : decode cX12_ofPerson 60 = .ok (.iload_n 3, 1) := by decide +kernel
theorem dX12_ofPerson_61 : decode cX12_ofPerson 61 = .ok (.iload_n 1, 1) := by decide +kernel
theorem dX12_ofPerson_62 : decode cX12_ofPerson 62 = .ok (.invokestatic 110, 3) := by decide +kernel
theorem dX12_ofPerson_65 : decode cX12_ofPerson 65 = .ok (.ireturn, 1) := by decide +kernel
theorem dX12_ofPerson_66 : decode cX12_ofPerson 66 = .ok (.aload_n 0, 1) := by decide +kernel
theorem dX12_ofPerson_67 : decode cX12_ofPerson 67 = .ok (.getfield 19, 3) := by decide +kernel
theorem dX12_ofPerson_70 : decode cX12_ofPerson 70 = .ok (.iload_n 3, 1) := by decide +kernel
theorem dX12_ofPerson_71 : decode cX12_ofPerson 71 = .ok (.iload_n 1, 1) := by decide +kernel
theorem dX12_ofPerson_72 : decode cX12_ofPerson 72 = .ok (.invokestatic 131, 3) := by decide +kernel
theorem dX12_ofPerson_75 : decode cX12_ofPerson 75 = .ok (.ireturn, 1) := by decide +kernel
theorem dX12_ofPerson_76 : decode cX12_ofPerson 76 = .ok (.aload_n 0, 1) := by decide +kernel
theorem dX12_ofPerson_77 : decode cX12_ofPerson 77 = .ok (.getfield 19, 3) := by decide +kernel
theorem dX12_ofPerson_80 : decode cX12_ofPerson 80 = .ok (.iload_n 1, 1) := by decide +kernel
theorem dX12_ofPerson_81 : decode cX12_ofPerson 81 = .ok (.iaload, 1) := by decide +kernel
theorem dX12_ofPerson_82 : decode cX12_ofPerson 82 = .ok (.iconst 1, 1) := by decide +kernel
theorem dX12_ofPerson_83 : decode cX12_ofPerson 83 = .ok (.iload_n 1, 1) := by decide +kernel
theorem dX12_ofPerson_84 : decode cX12_ofPerson 84 = .ok (.ishl, 1) := by decide +kernel
theorem dX12_ofPerson_85 : decode cX12_ofPerson 85 = .ok (.ior, 1) := by decide +kernel
theorem dX12_ofPerson_86 : decode cX12_ofPerson 86 = .ok (.ireturn, 1) := by decide +kernel
theorem dX12_ofPerson_87 : decode cX12_ofPerson 87 = .ok (.iload_n 3, 1) := by decide +kernel
theorem dX12_ofPerson_88 : decode cX12_ofPerson 88 = .ok (.iload_n 1, 1) := by decide +kernel
theorem dX12_ofPerson_89 : decode cX12_ofPerson 89 = .ok (.invokestatic 110, 3) := by decide +kernel
theorem dX12_ofPerson_92 : decode cX12_ofPerson 92 = .ok (.iconst 1, 1) := by decide +kernel
theorem dX12_ofPerson_93 : decode cX12_ofPerson 93 = .ok (.aload_n 0, 1) := by decide +kernel
theorem dX12_ofPerson_94 : decode cX12_ofPerson 94 = .ok (.getfield 82, 3) := by decide +kernel
theorem dX12_ofPerson_97 : decode cX12_ofPerson 97 = .ok (.ishl, 1) := by decide +kernel
theorem dX12_ofPerson_98 : decode cX12_ofPerson 98 = .ok (.iconst 1, 1) := by decide +kernel
theorem dX12_ofPerson_99 : decode cX12_ofPerson 99 = .ok (.isub, 1) := by decide +kernel
theorem dX12_ofPerson_100 : decode cX12_ofPerson 100 = .ok (.if_icmp .ne 7, 3) := by decide +kernel
theorem dX12_ofPerson_103 : decode cX12_ofPerson 103 = .ok (.iconst 1, 1) := by decide +kernel
theorem dX12_ofPerson_104 : decode cX12_ofPerson 104 = .ok (.goto 4, 3) := by decide +kernel
theorem dX12_ofPerson_107 : decode cX12_ofPerson 107 = .ok (.iconst 0, 1) := by decide +kernel
theorem dX12_ofPerson_108 : decode cX12_ofPerson 108 = .ok (.ireturn, 1) := by decide +kernel
theorem dX12_ofPerson_109 : decode cX12_ofPerson 109 = .ok (.aload_n 0, 1) := by decide +kernel
theorem dX12_ofPerson_110 : decode cX12_ofPerson 110 = .ok (.iconst 2, 1) := by decide +kernel
theorem dX12_ofPerson_111 : decode cX12_ofPerson 111 = .ok (.invokevirtual 135, 3) := by decide +kernel
theorem dX12_ofPerson_114 : decode cX12_ofPerson 114 = .ok (.iload_n 1, 1) := by decide +kernel
theorem dX12_ofPerson_115 : decode cX12_ofPerson 115 = .ok (.ishr, 1) := by decide +kernel
theorem dX12_ofPerson_116 : decode cX12_ofPerson 116 = .ok (.iconst 1, 1) := by decide +kernel
theorem dX12_ofPerson_117 : decode cX12_ofPerson 117 = .ok (.iand, 1) := by decide +kernel
theorem dX12_ofPerson_118 : decode cX12_ofPerson 118 = .ok (.ireturn, 1) := by decide +kernel
theorem dX12_ofPerson_119 : decode cX12_ofPerson 119 = .ok (.aload_n 0, 1) := by decide +kernel
theorem dX12_ofPerson_120 : decode cX12_ofPerson 120 = .ok (.iconst 3, 1) := by decide +kernel
theorem dX12_ofPerson_121 : decode cX12_ofPerson 121 = .ok (.invokevirtual 135, 3) := by decide +kernel
theorem dX12_ofPerson_124 : decode cX12_ofPerson 124 = .ok (.iload_n 1, 1) := by decide +kernel
theorem dX12_ofPerson_125 : decode cX12_ofPerson 125 = .ok (.ishr, 1) := by decide +kernel
theorem dX12_ofPerson_126 : decode cX12_ofPerson 126 = .ok (.iconst 1, 1) := by decide +kernel
theorem dX12_ofPerson_127 : decode cX12_ofPerson 127 = .ok (.iand, 1) := by decide +kernel
theorem dX12_ofPerson_128 : decode cX12_ofPerson 128 = .ok (.ireturn, 1) := by decide +kernel
theorem dX12_ofPerson_129 : decode cX12_ofPerson 129 = .ok (.bipush (-2), 2) := by decide +kernel
theorem dX12_ofPerson_131 : decode cX12_ofPerson 131 = .ok (.ireturn, 1) := by decide +kernel
theorem dX12_call_0 : decode cX12_call 0 = .ok (.aload_n 0, 1) := by decide +kernel
theorem dX12_call_1 : decode cX12_call 1 = .ok (.iload_n 1, 1) := by decide +kernel
theorem dX12_call_2 : decode cX12_call 2 = .ok (.invokevirtual 125, 3) := by decide +kernel
theorem dX12_call_5 : decode cX12_call 5 = .ok (.ifCond .eq 11, 3) := by decide +kernel
theorem dX12_call_8 : decode cX12_call 8 = .ok (.aload_n 0, 1) := by decide +kernel
theorem dX12_call_9 : decode cX12_call 9 = .ok (.iload_n 2, 1) := by decide +kernel
theorem dX12_call_10 : decode cX12_call 10 = .ok (.invokevirtual 125, 3) := by decide +kernel
theorem dX12_call_13 : decode cX12_call 13 = .ok (.ifCond .ne 5, 3) := by decide +kernel
theorem dX12_call_16 : decode cX12_call 16 = .ok (.iconst (-1), 1) := by decide +kernel
theorem dX12_call_17 : decode cX12_call 17 = .ok (.ireturn, 1) := by decide +kernel
theorem dX12_call_18 : decode cX12_call 18 = .ok (.iload_n 1, 1) := by decide +kernel
theorem dX12_call_19 : decode cX12_call 19 = .ok (.iload_n 2, 1) := by decide +kernel
theorem dX12_call_20 : decode cX12_call 20 = .ok (.if_icmp .ne 6, 3) := by decide +kernel
theorem dX12_call_23 : decode cX12_call 23 = .ok (.bipush (-2), 2) := by decide +kernel
theorem dX12_call_25 : decode cX12_call 25 = .ok (.ireturn, 1) := by decide +kernel
theorem dX12_call_26 : decode cX12_call 26 = .ok (.aload_n 0, 1) := by decide +kernel
theorem dX12_call_27 : decode cX12_call 27 = .ok (.getfield 19, 3) := by decide +kernel
theorem dX12_call_30 : decode cX12_call 30 = .ok (.aload_n 0, 1) := by decide +kernel
theorem dX12_call_31 : decode cX12_call 31 = .ok (.aload_n 0, 1) := by decide +kernel
theorem dX12_call_32 : decode cX12_call 32 = .ok (.getfield 103, 3) := by decide +kernel
theorem dX12_call_35 : decode cX12_call 35 = .ok (.invokevirtual 128, 3) := by decide +kernel
theorem dX12_call_38 : decode cX12_call 38 = .ok (.iload_n 1, 1) := by decide +kernel
theorem dX12_call_39 : decode cX12_call 39 = .ok (.invokestatic 131, 3) := by decide +kernel
theorem dX12_call_42 : decode cX12_call 42 = .ok (.iload_n 2, 1) := by decide +kernel
theorem dX12_call_43 : decode cX12_call 43 = .ok (.invokestatic 106, 3) := by decide +kernel
theorem dX12_call_46 : decode cX12_call 46 = .ok (.ifCond .ne 6, 3) := by decide +kernel
theorem dX12_call_49 : decode cX12_call 49 = .ok (.bipush (-3), 2) := by decide +kernel
theorem dX12_call_51 : decode cX12_call 51 = .ok (.ireturn, 1) := by decide +kernel
theorem dX12_call_52 : decode cX12_call 52 = .ok (.aload_n 0, 1) := by decide +kernel
theorem dX12_call_53 : decode cX12_call 53 = .ok (.getfield 103, 3) := by decide +kernel
theorem dX12_call_56 : decode cX12_call 56 = .ok (.bipush 12, 2) := by decide +kernel
theorem dX12_call_58 : decode cX12_call 58 = .ok (.if_icmp .ne 6, 3) := by decide +kernel
theorem dX12_call_61 : decode cX12_call 61 = .ok (.bipush (-4), 2) := by decide +kernel
theorem dX12_call_63 : decode cX12_call 63 = .ok (.ireturn, 1) := by decide +kernel
theorem dX12_call_64 : decode cX12_call 64 = .ok (.aload_n 0, 1) := by decide +kernel
theorem dX12_call_65 : decode cX12_call 65 = .ok (.getfield 25, 3) := by decide +kernel
theorem dX12_call_68 : decode cX12_call 68 = .ok (.aload_n 0, 1) := by decide +kernel
theorem dX12_call_69 : decode cX12_call 69 = .ok (.getfield 103, 3) := by decide +kernel
theorem dX12_call_72 : decode cX12_call 72 = .ok (.iload_n 1, 1) := by decide +kernel
theorem dX12_call_73 : decode cX12_call 73 = .ok (.iastore, 1) := by decide +kernel
theorem dX12_call_74 : decode cX12_call 74 = .ok (.aload_n 0, 1) := by decide +kernel
theorem dX12_call_75 : decode cX12_call 75 = .ok (.getfield 28, 3) := by decide +kernel
theorem dX12_call_78 : decode cX12_call 78 = .ok (.aload_n 0, 1) := by decide +kernel
theorem dX12_call_79 : decode cX12_call 79 = .ok (.getfield 103, 3) := by decide +kernel
theorem dX12_call_82 : decode cX12_call 82 = .ok (.iload_n 2, 1) := by decide +kernel
theorem dX12_call_83 : decode cX12_call 83 = .ok (.iastore, 1) := by decide +kernel
theorem dX12_call_84 : decode cX12_call 84 = .ok (.aload_n 0, 1) := by decide +kernel
theorem dX12_call_85 : decode cX12_call 85 = .ok (.dup, 1) := by decide +kernel
theorem dX12_call_86 : decode cX12_call 86 = .ok (.getfield 103, 3) := by decide +kernel
theorem dX12_call_89 : decode cX12_call 89 = .ok (.iconst 1, 1) := by decide +kernel
theorem dX12_call_90 : decode cX12_call 90 = .ok (.iadd, 1) := by decide +kernel
theorem dX12_call_91 : decode cX12_call 91 = .ok (.putfield 103, 3) := by decide +kernel
theorem dX12_call_94 : decode cX12_call 94 = .ok (.aload_n 0, 1) := by decide +kernel
theorem dX12_call_95 : decode cX12_call 95 = .ok (.getfield 103, 3) := by decide +kernel
theorem dX12_call_98 : decode cX12_call 98 = .ok (.iconst 1, 1) := by decide +kernel
theorem dX12_call_99 : decode cX12_call 99 = .ok (.isub, 1) := by decide +kernel
theorem dX12_call_100 : decode cX12_call 100 = .ok (.ireturn, 1) := by decide +kernel
theorem dX12_isCall_0 : decode cX12_isCall 0 = .ok (.iload_n 1, 1) := by decide +kernel
theorem dX12_isCall_1 : decode cX12_isCall 1 = .ok (.ifCond .lt 15, 3) := by decide +kernel
theorem dX12_isCall_4 : decode cX12_isCall 4 = .ok (.iload_n 1, 1) := by decide +kernel
theorem dX12_isCall_5 : decode cX12_isCall 5 = .ok (.aload_n 0, 1) := by decide +kernel
theorem dX12_isCall_6 : decode cX12_isCall 6 = .ok (.getfield 103, 3) := by decide +kernel
theorem dX12_isCall_9 : decode cX12_isCall 9 = .ok (.if_icmp .ge 7, 3) := by decide +kernel
theorem dX12_isCall_12 : decode cX12_isCall 12 = .ok (.iconst 1, 1) := by decide +kernel
theorem dX12_isCall_13 : decode cX12_isCall 13 = .ok (.goto 4, 3) := by decide +kernel
theorem dX12_isCall_16 : decode cX12_isCall 16 = .ok (.iconst 0, 1) := by decide +kernel
theorem dX12_isCall_17 : decode cX12_isCall 17 = .ok (.ireturn, 1) := by decide +kernel
theorem dX12_learnt_0 : decode cX12_learnt 0 = .ok (.aload_n 0, 1) := by decide +kernel
theorem dX12_learnt_1 : decode cX12_learnt 1 = .ok (.iload_n 1, 1) := by decide +kernel
theorem dX12_learnt_2 : decode cX12_learnt 2 = .ok (.iconst 1, 1) := by decide +kernel
theorem dX12_learnt_3 : decode cX12_learnt 3 = .ok (.iadd, 1) := by decide +kernel
theorem dX12_learnt_4 : decode cX12_learnt 4 = .ok (.invokevirtual 128, 3) := by decide +kernel
theorem dX12_learnt_7 : decode cX12_learnt 7 = .ok (.iload_n 2, 1) := by decide +kernel
theorem dX12_learnt_8 : decode cX12_learnt 8 = .ok (.invokestatic 110, 3) := by decide +kernel
theorem dX12_learnt_11 : decode cX12_learnt 11 = .ok (.aload_n 0, 1) := by decide +kernel
theorem dX12_learnt_12 : decode cX12_learnt 12 = .ok (.iload_n 1, 1) := by decide +kernel
theorem dX12_learnt_13 : decode cX12_learnt 13 = .ok (.invokevirtual 128, 3) := by decide +kernel
theorem dX12_learnt_16 : decode cX12_learnt 16 = .ok (.iload_n 2, 1) := by decide +kernel
theorem dX12_learnt_17 : decode cX12_learnt 17 = .ok (.invokestatic 110, 3) := by decide +kernel
theorem dX12_learnt_20 : decode cX12_learnt 20 = .ok (.iconst (-1), 1) := by decide +kernel
theorem dX12_learnt_21 : decode cX12_learnt 21 = .ok (.ixor, 1) := by decide +kernel
theorem dX12_learnt_22 : decode cX12_learnt 22 = .ok (.iand, 1) := by decide +kernel
theorem dX12_learnt_23 : decode cX12_learnt 23 = .ok (.ireturn, 1) := by decide +kernel
theorem dX12_kindOf_0 : decode cX12_kindOf 0 = .ok (.aload_n 0, 1) := by decide +kernel
theorem dX12_kindOf_1 : decode cX12_kindOf 1 = .ok (.iload_n 1, 1) := by decide +kernel
theorem dX12_kindOf_2 : decode cX12_kindOf 2 = .ok (.aload_n 0, 1) := by decide +kernel
theorem dX12_kindOf_3 : decode cX12_kindOf 3 = .ok (.getfield 25, 3) := by decide +kernel
theorem dX12_kindOf_6 : decode cX12_kindOf 6 = .ok (.iload_n 1, 1) := by decide +kernel
theorem dX12_kindOf_7 : decode cX12_kindOf 7 = .ok (.iaload, 1) := by decide +kernel
theorem dX12_kindOf_8 : decode cX12_kindOf 8 = .ok (.invokevirtual 138, 3) := by decide +kernel
theorem dX12_kindOf_11 : decode cX12_kindOf 11 = .ok (.invokestatic 141, 3) := by decide +kernel
theorem dX12_kindOf_14 : decode cX12_kindOf 14 = .ok (.aload_n 0, 1) := by decide +kernel
theorem dX12_kindOf_15 : decode cX12_kindOf 15 = .ok (.iload_n 1, 1) := by decide +kernel
theorem dX12_kindOf_16 : decode cX12_kindOf 16 = .ok (.aload_n 0, 1) := by decide +kernel
theorem dX12_kindOf_17 : decode cX12_kindOf 17 = .ok (.getfield 28, 3) := by decide +kernel
theorem dX12_kindOf_20 : decode cX12_kindOf 20 = .ok (.iload_n 1, 1) := by decide +kernel
theorem dX12_kindOf_21 : decode cX12_kindOf 21 = .ok (.iaload, 1) := by decide +kernel
theorem dX12_kindOf_22 : decode cX12_kindOf 22 = .ok (.invokevirtual 138, 3) := by decide +kernel
theorem dX12_kindOf_25 : decode cX12_kindOf 25 = .ok (.invokestatic 141, 3) := by decide +kernel
theorem dX12_kindOf_28 : decode cX12_kindOf 28 = .ok (.iadd, 1) := by decide +kernel
theorem dX12_kindOf_29 : decode cX12_kindOf 29 = .ok (.istore_n 2, 1) := by decide +kernel
theorem dX12_kindOf_30 : decode cX12_kindOf 30 = .ok (.aload_n 0, 1) := by decide +kernel
theorem dX12_kindOf_31 : decode cX12_kindOf 31 = .ok (.iload_n 1, 1) := by decide +kernel
theorem dX12_kindOf_32 : decode cX12_kindOf 32 = .ok (.iconst 1, 1) := by decide +kernel
theorem dX12_kindOf_33 : decode cX12_kindOf 33 = .ok (.iadd, 1) := by decide +kernel
theorem dX12_kindOf_34 : decode cX12_kindOf 34 = .ok (.invokevirtual 128, 3) := by decide +kernel
theorem dX12_kindOf_37 : decode cX12_kindOf 37 = .ok (.aload_n 0, 1) := by decide +kernel
theorem dX12_kindOf_38 : decode cX12_kindOf 38 = .ok (.getfield 25, 3) := by decide +kernel
theorem dX12_kindOf_41 : decode cX12_kindOf 41 = .ok (.iload_n 1, 1) := by decide +kernel
theorem dX12_kindOf_42 : decode cX12_kindOf 42 = .ok (.iaload, 1) := by decide +kernel
theorem dX12_kindOf_43 : decode cX12_kindOf 43 = .ok (.invokestatic 110, 3) := by decide +kernel
theorem dX12_kindOf_46 : decode cX12_kindOf 46 = .ok (.iconst 1, 1) := by decide +kernel
theorem dX12_kindOf_47 : decode cX12_kindOf 47 = .ok (.aload_n 0, 1) := by decide +kernel
theorem dX12_kindOf_48 : decode cX12_kindOf 48 = .ok (.getfield 82, 3) := by decide +kernel
theorem dX12_kindOf_51 : decode cX12_kindOf 51 = .ok (.ishl, 1) := by decide +kernel
theorem dX12_kindOf_52 : decode cX12_kindOf 52 = .ok (.iconst 1, 1) := by decide +kernel
theorem dX12_kindOf_53 : decode cX12_kindOf 53 = .ok (.isub, 1) := by decide +kernel
theorem dX12_kindOf_54 : decode cX12_kindOf 54 = .ok (.if_icmp .ne 7, 3) := by decide +kernel
theorem dX12_kindOf_57 : decode cX12_kindOf 57 = .ok (.iconst 1, 1) := by decide +kernel
theorem dX12_kindOf_58 : decode cX12_kindOf 58 = .ok (.goto 4, 3) := by decide +kernel
theorem dX12_kindOf_61 : decode cX12_kindOf 61 = .ok (.iconst 0, 1) := by decide +kernel
theorem dX12_kindOf_62 : decode cX12_kindOf 62 = .ok (.istore_n 3, 1) := by decide +kernel
theorem dX12_kindOf_63 : decode cX12_kindOf 63 = .ok (.iload_n 2, 1) := by decide +kernel
theorem dX12_kindOf_64 : decode cX12_kindOf 64 = .ok (.ifCond .ne 7, 3) := by decide +kernel
theorem dX12_kindOf_67 : decode cX12_kindOf 67 = .ok (.iconst 0, 1) := by decide +kernel
theorem dX12_kindOf_68 : decode cX12_kindOf 68 = .ok (.goto 12, 3) := by decide +kernel
theorem dX12_kindOf_71 : decode cX12_kindOf 71 = .ok (.iload_n 3, 1) := by decide +kernel
theorem dX12_kindOf_72 : decode cX12_kindOf 72 = .ok (.ifCond .eq 7, 3) := by decide +kernel
theorem dX12_kindOf_75 : decode cX12_kindOf 75 = .ok (.iconst 2, 1) := by decide +kernel
theorem dX12_kindOf_76 : decode cX12_kindOf 76 = .ok (.goto 4, 3) := by decide +kernel
theorem dX12_kindOf_79 : decode cX12_kindOf 79 = .ok (.iconst 1, 1) := by decide +kernel
theorem dX12_kindOf_80 : decode cX12_kindOf 80 = .ok (.ireturn, 1) := by decide +kernel
theorem dX12_ofCall_0 : decode cX12_ofCall 0 = .ok (.aload_n 0, 1) := by decide +kernel
theorem dX12_ofCall_1 : decode cX12_ofCall 1 = .ok (.iload_n 1, 1) := by decide +kernel
theorem dX12_ofCall_2 : decode cX12_ofCall 2 = .ok (.invokevirtual 144, 3) := by decide +kernel
theorem dX12_ofCall_5 : decode cX12_ofCall 5 = .ok (.ifCond .ne 5, 3) := by decide +kernel
theorem dX12_ofCall_8 : decode cX12_ofCall 8 = .ok (.iconst (-1), 1) := by decide +kernel
theorem dX12_ofCall_9 : decode cX12_ofCall 9 = .ok (.ireturn, 1) := by decide +kernel
theorem dX12_ofCall_10 : decode cX12_ofCall 10 = .ok (.iload_n 2, 1) := by decide +kernel
theorem dX12_ofCall_11 : decode cX12_ofCall 11 = .ok (.tableswitch 77 0 4 #[33, 39, 46, 53, 65], 33) := by decide +kernel
theorem dX12_ofCall_44 : decode cX12_ofCall 44 = .ok (.aload_n 0, 1) := by decide +kernel
theorem dX12_ofCall_45 : decode cX12_ofCall 45 = .ok (.iload_n 1, 1) := by decide +kernel
theorem dX12_ofCall_46 : decode cX12_ofCall 46 = .ok (.invokevirtual 147, 3) := by decide +kernel
theorem dX12_ofCall_49 : decode cX12_ofCall 49 = .ok (.ireturn, 1) := by decide +kernel
theorem dX12_ofCall_50 : decode cX12_ofCall 50 = .ok (.aload_n 0, 1) := by decide +kernel
theorem dX12_ofCall_51 : decode cX12_ofCall 51 = .ok (.getfield 25, 3) := by decide +kernel
theorem dX12_ofCall_54 : decode cX12_ofCall 54 = .ok (.iload_n 1, 1) := by decide +kernel
theorem dX12_ofCall_55 : decode cX12_ofCall 55 = .ok (.iaload, 1) := by decide +kernel
theorem dX12_ofCall_56 : decode cX12_ofCall 56 = .ok (.ireturn, 1) := by decide +kernel
theorem dX12_ofCall_57 : decode cX12_ofCall 57 = .ok (.aload_n 0, 1) := by decide +kernel
theorem dX12_ofCall_58 : decode cX12_ofCall 58 = .ok (.getfield 28, 3) := by decide +kernel
theorem dX12_ofCall_61 : decode cX12_ofCall 61 = .ok (.iload_n 1, 1) := by decide +kernel
theorem dX12_ofCall_62 : decode cX12_ofCall 62 = .ok (.iaload, 1) := by decide +kernel
theorem dX12_ofCall_63 : decode cX12_ofCall 63 = .ok (.ireturn, 1) := by decide +kernel
theorem dX12_ofCall_64 : decode cX12_ofCall 64 = .ok (.aload_n 0, 1) := by decide +kernel
theorem dX12_ofCall_65 : decode cX12_ofCall 65 = .ok (.iload_n 1, 1) := by decide +kernel
theorem dX12_ofCall_66 : decode cX12_ofCall 66 = .ok (.aload_n 0, 1) := by decide +kernel
theorem dX12_ofCall_67 : decode cX12_ofCall 67 = .ok (.getfield 25, 3) := by decide +kernel
theorem dX12_ofCall_70 : decode cX12_ofCall 70 = .ok (.iload_n 1, 1) := by decide +kernel
theorem dX12_ofCall_71 : decode cX12_ofCall 71 = .ok (.iaload, 1) := by decide +kernel
theorem dX12_ofCall_72 : decode cX12_ofCall 72 = .ok (.invokevirtual 138, 3) := by decide +kernel
theorem dX12_ofCall_75 : decode cX12_ofCall 75 = .ok (.ireturn, 1) := by decide +kernel
theorem dX12_ofCall_76 : decode cX12_ofCall 76 = .ok (.aload_n 0, 1) := by decide +kernel
theorem dX12_ofCall_77 : decode cX12_ofCall 77 = .ok (.iload_n 1, 1) := by decide +kernel
theorem dX12_ofCall_78 : decode cX12_ofCall 78 = .ok (.aload_n 0, 1) := by decide +kernel
theorem dX12_ofCall_79 : decode cX12_ofCall 79 = .ok (.getfield 28, 3) := by decide +kernel
theorem dX12_ofCall_82 : decode cX12_ofCall 82 = .ok (.iload_n 1, 1) := by decide +kernel
theorem dX12_ofCall_83 : decode cX12_ofCall 83 = .ok (.iaload, 1) := by decide +kernel
theorem dX12_ofCall_84 : decode cX12_ofCall 84 = .ok (.invokevirtual 138, 3) := by decide +kernel
theorem dX12_ofCall_87 : decode cX12_ofCall 87 = .ok (.ireturn, 1) := by decide +kernel
theorem dX12_ofCall_88 : decode cX12_ofCall 88 = .ok (.bipush (-2), 2) := by decide +kernel
theorem dX12_ofCall_90 : decode cX12_ofCall 90 = .ok (.ireturn, 1) := by decide +kernel
theorem dX12_back_0 : decode cX12_back 0 = .ok (.aload_n 0, 1) := by decide +kernel
theorem dX12_back_1 : decode cX12_back 1 = .ok (.getfield 103, 3) := by decide +kernel
theorem dX12_back_4 : decode cX12_back 4 = .ok (.ifCond .ne 6, 3) := by decide +kernel
theorem dX12_back_7 : decode cX12_back 7 = .ok (.bipush (-3), 2) := by decide +kernel
theorem dX12_back_9 : decode cX12_back 9 = .ok (.ireturn, 1) := by decide +kernel
theorem dX12_back_10 : decode cX12_back 10 = .ok (.aload_n 0, 1) := by decide +kernel
theorem dX12_back_11 : decode cX12_back 11 = .ok (.dup, 1) := by decide +kernel
theorem dX12_back_12 : decode cX12_back 12 = .ok (.getfield 103, 3) := by decide +kernel
theorem dX12_back_15 : decode cX12_back 15 = .ok (.iconst 1, 1) := by decide +kernel
theorem dX12_back_16 : decode cX12_back 16 = .ok (.isub, 1) := by decide +kernel
theorem dX12_back_17 : decode cX12_back 17 = .ok (.putfield 103, 3) := by decide +kernel
theorem dX12_back_20 : decode cX12_back 20 = .ok (.aload_n 0, 1) := by decide +kernel
theorem dX12_back_21 : decode cX12_back 21 = .ok (.getfield 103, 3) := by decide +kernel
theorem dX12_back_24 : decode cX12_back 24 = .ok (.ireturn, 1) := by decide +kernel
theorem dX12_mayRing_0 : decode cX12_mayRing 0 = .ok (.iload 4, 2) := by decide +kernel
theorem dX12_mayRing_2 : decode cX12_mayRing 2 = .ok (.iload 5, 2) := by decide +kernel
theorem dX12_mayRing_4 : decode cX12_mayRing 4 = .ok (.if_icmp .eq 18, 3) := by decide +kernel
theorem dX12_mayRing_7 : decode cX12_mayRing 7 = .ok (.aload_n 0, 1) := by decide +kernel
theorem dX12_mayRing_8 : decode cX12_mayRing 8 = .ok (.iload_n 2, 1) := by decide +kernel
theorem dX12_mayRing_9 : decode cX12_mayRing 9 = .ok (.iload 4, 2) := by decide +kernel
theorem dX12_mayRing_11 : decode cX12_mayRing 11 = .ok (.invokestatic 131, 3) := by decide +kernel
theorem dX12_mayRing_14 : decode cX12_mayRing 14 = .ok (.iload 5, 2) := by decide +kernel
theorem dX12_mayRing_16 : decode cX12_mayRing 16 = .ok (.invokestatic 106, 3) := by decide +kernel
theorem dX12_mayRing_19 : decode cX12_mayRing 19 = .ok (.ifCond .ne 5, 3) := by decide +kernel
theorem dX12_mayRing_22 : decode cX12_mayRing 22 = .ok (.iconst 0, 1) := by decide +kernel
theorem dX12_mayRing_23 : decode cX12_mayRing 23 = .ok (.ireturn, 1) := by decide +kernel
theorem dX12_mayRing_24 : decode cX12_mayRing 24 = .ok (.iload_n 1, 1) := by decide +kernel
theorem dX12_mayRing_25 : decode cX12_mayRing 25 = .ok (.iconst 1, 1) := by decide +kernel
theorem dX12_mayRing_26 : decode cX12_mayRing 26 = .ok (.if_icmp .ne 23, 3) := by decide +kernel
theorem dX12_mayRing_29 : decode cX12_mayRing 29 = .ok (.iload_n 2, 1) := by decide +kernel
theorem dX12_mayRing_30 : decode cX12_mayRing 30 = .ok (.iload 4, 2) := by decide +kernel
theorem dX12_mayRing_32 : decode cX12_mayRing 32 = .ok (.invokestatic 110, 3) := by decide +kernel
theorem dX12_mayRing_35 : decode cX12_mayRing 35 = .ok (.iload 5, 2) := by decide +kernel
theorem dX12_mayRing_37 : decode cX12_mayRing 37 = .ok (.invokestatic 106, 3) := by decide +kernel
theorem dX12_mayRing_40 : decode cX12_mayRing 40 = .ok (.ifCond .ne 7, 3) := by decide +kernel
theorem dX12_mayRing_43 : decode cX12_mayRing 43 = .ok (.iconst 1, 1) := by decide +kernel
theorem dX12_mayRing_44 : decode cX12_mayRing 44 = .ok (.goto 4, 3) := by decide +kernel
theorem dX12_mayRing_47 : decode cX12_mayRing 47 = .ok (.iconst 0, 1) := by decide +kernel
theorem dX12_mayRing_48 : decode cX12_mayRing 48 = .ok (.ireturn, 1) := by decide +kernel
theorem dX12_mayRing_49 : decode cX12_mayRing 49 = .ok (.iload_n 2, 1) := by decide +kernel
theorem dX12_mayRing_50 : decode cX12_mayRing 50 = .ok (.iload 4, 2) := by decide +kernel
theorem dX12_mayRing_52 : decode cX12_mayRing 52 = .ok (.invokestatic 110, 3) := by decide +kernel
theorem dX12_mayRing_55 : decode cX12_mayRing 55 = .ok (.iload_n 2, 1) := by decide +kernel
theorem dX12_mayRing_56 : decode cX12_mayRing 56 = .ok (.iload 5, 2) := by decide +kernel
theorem dX12_mayRing_58 : decode cX12_mayRing 58 = .ok (.invokestatic 110, 3) := by decide +kernel
theorem dX12_mayRing_61 : decode cX12_mayRing 61 = .ok (.if_icmp .eq 20, 3) := by decide +kernel
theorem dX12_mayRing_64 : decode cX12_mayRing 64 = .ok (.iload_n 1, 1) := by decide +kernel
theorem dX12_mayRing_65 : decode cX12_mayRing 65 = .ok (.ifCond .eq 12, 3) := by decide +kernel
theorem dX12_mayRing_68 : decode cX12_mayRing 68 = .ok (.iload_n 3, 1) := by decide +kernel
theorem dX12_mayRing_69 : decode cX12_mayRing 69 = .ok (.iload 4, 2) := by decide +kernel
theorem dX12_mayRing_71 : decode cX12_mayRing 71 = .ok (.invokestatic 106, 3) := by decide +kernel
theorem dX12_mayRing_74 : decode cX12_mayRing 74 = .ok (.ifCond .eq 7, 3) := by decide +kernel
theorem dX12_mayRing_77 : decode cX12_mayRing 77 = .ok (.iconst 1, 1) := by decide +kernel
theorem dX12_mayRing_78 : decode cX12_mayRing 78 = .ok (.goto 4, 3) := by decide +kernel
theorem dX12_mayRing_81 : decode cX12_mayRing 81 = .ok (.iconst 0, 1) := by decide +kernel
theorem dX12_mayRing_82 : decode cX12_mayRing 82 = .ok (.ireturn, 1) := by decide +kernel
theorem dX12_may_0 : decode cX12_may 0 = .ok (.iload_n 1, 1) := by decide +kernel
theorem dX12_may_1 : decode cX12_may 1 = .ok (.invokestatic 150, 3) := by decide +kernel
theorem dX12_may_4 : decode cX12_may 4 = .ok (.ifCond .eq 11, 3) := by decide +kernel
theorem dX12_may_7 : decode cX12_may 7 = .ok (.aload_n 0, 1) := by decide +kernel
theorem dX12_may_8 : decode cX12_may 8 = .ok (.iload_n 2, 1) := by decide +kernel
theorem dX12_may_9 : decode cX12_may 9 = .ok (.invokevirtual 125, 3) := by decide +kernel
theorem dX12_may_12 : decode cX12_may 12 = .ok (.ifCond .ne 5, 3) := by decide +kernel
theorem dX12_may_15 : decode cX12_may 15 = .ok (.iconst (-1), 1) := by decide +kernel
theorem dX12_may_16 : decode cX12_may 16 = .ok (.ireturn, 1) := by decide +kernel
theorem dX12_may_17 : decode cX12_may 17 = .ok (.iconst 0, 1) := by decide +kernel
theorem dX12_may_18 : decode cX12_may 18 = .ok (.istore_n 3, 1) := by decide +kernel
theorem dX12_may_19 : decode cX12_may 19 = .ok (.iconst 0, 1) := by decide +kernel
theorem dX12_may_20 : decode cX12_may 20 = .ok (.istore 4, 2) := by decide +kernel
theorem dX12_may_22 : decode cX12_may 22 = .ok (.iload 4, 2) := by decide +kernel
theorem dX12_may_24 : decode cX12_may 24 = .ok (.aload_n 0, 1) := by decide +kernel
theorem dX12_may_25 : decode cX12_may 25 = .ok (.getfield 82, 3) := by decide +kernel
theorem dX12_may_28 : decode cX12_may 28 = .ok (.if_icmp .ge 47, 3) := by decide +kernel
theorem dX12_may_31 : decode cX12_may 31 = .ok (.iload_n 3, 1) := by decide +kernel
theorem dX12_may_32 : decode cX12_may 32 = .ok (.aload_n 0, 1) := by decide +kernel
theorem dX12_may_33 : decode cX12_may 33 = .ok (.getfield 19, 3) := by decide +kernel
theorem dX12_may_36 : decode cX12_may 36 = .ok (.iload_n 1, 1) := by decide +kernel
theorem dX12_may_37 : decode cX12_may 37 = .ok (.aload_n 0, 1) := by decide +kernel
theorem dX12_may_38 : decode cX12_may 38 = .ok (.aload_n 0, 1) := by decide +kernel
theorem dX12_may_39 : decode cX12_may 39 = .ok (.getfield 103, 3) := by decide +kernel
theorem dX12_may_42 : decode cX12_may 42 = .ok (.invokevirtual 128, 3) := by decide +kernel
theorem dX12_may_45 : decode cX12_may 45 = .ok (.aload_n 0, 1) := by decide +kernel
theorem dX12_may_46 : decode cX12_may 46 = .ok (.iload_n 1, 1) := by decide +kernel
theorem dX12_may_47 : decode cX12_may 47 = .ok (.invokevirtual 135, 3) := by decide +kernel
theorem dX12_may_50 : decode cX12_may 50 = .ok (.iload_n 2, 1) := by decide +kernel
theorem dX12_may_51 : decode cX12_may 51 = .ok (.iload 4, 2) := by decide +kernel
theorem dX12_may_53 : decode cX12_may 53 = .ok (.invokestatic 153, 3) := by decide +kernel
theorem dX12_may_56 : decode cX12_may 56 = .ok (.ifCond .eq 10, 3) := by decide +kernel
theorem dX12_may_59 : decode cX12_may 59 = .ok (.iconst 1, 1) := by decide +kernel
theorem dX12_may_60 : decode cX12_may 60 = .ok (.iload 4, 2) := by decide +kernel
theorem dX12_may_62 : decode cX12_may 62 = .ok (.ishl, 1) := by decide +kernel
theorem dX12_may_63 : decode cX12_may 63 = .ok (.goto 4, 3) := by decide +kernel
theorem dX12_may_66 : decode cX12_may 66 = .ok (.iconst 0, 1) := by decide +kernel
theorem dX12_may_67 : decode cX12_may 67 = .ok (.ior, 1) := by decide +kernel
theorem dX12_may_68 : decode cX12_may 68 = .ok (.istore_n 3, 1) := by decide +kernel
theorem dX12_may_69 : decode cX12_may 69 = .ok (.iinc 4 1, 3) := by decide +kernel
theorem dX12_may_72 : decode cX12_may 72 = .ok (.goto (-50), 3) := by decide +kernel
theorem dX12_may_75 : decode cX12_may 75 = .ok (.iload_n 3, 1) := by decide +kernel
theorem dX12_may_76 : decode cX12_may 76 = .ok (.ireturn, 1) := by decide +kernel
theorem dX12_placeOf_0 : decode cX12_placeOf 0 = .ok (.iload_n 1, 1) := by decide +kernel
theorem dX12_placeOf_1 : decode cX12_placeOf 1 = .ok (.istore_n 2, 1) := by decide +kernel
theorem dX12_placeOf_2 : decode cX12_placeOf 2 = .ok (.iconst 0, 1) := by decide +kernel
theorem dX12_placeOf_3 : decode cX12_placeOf 3 = .ok (.istore_n 3, 1) := by decide +kernel
theorem dX12_placeOf_4 : decode cX12_placeOf 4 = .ok (.iload_n 3, 1) := by decide +kernel
theorem dX12_placeOf_5 : decode cX12_placeOf 5 = .ok (.iconst 4, 1) := by decide +kernel
theorem dX12_placeOf_6 : decode cX12_placeOf 6 = .ok (.if_icmp .ge 46, 3) := by decide +kernel
theorem dX12_placeOf_9 : decode cX12_placeOf 9 = .ok (.iload_n 0, 1) := by decide +kernel
theorem dX12_placeOf_10 : decode cX12_placeOf 10 = .ok (.iload_n 3, 1) := by decide +kernel
theorem dX12_placeOf_11 : decode cX12_placeOf 11 = .ok (.invokestatic 110, 3) := by decide +kernel
theorem dX12_placeOf_14 : decode cX12_placeOf 14 = .ok (.istore 4, 2) := by decide +kernel
theorem dX12_placeOf_16 : decode cX12_placeOf 16 = .ok (.iload 4, 2) := by decide +kernel
theorem dX12_placeOf_18 : decode cX12_placeOf 18 = .ok (.iconst 1, 1) := by decide +kernel
theorem dX12_placeOf_19 : decode cX12_placeOf 19 = .ok (.iload_n 3, 1) := by decide +kernel
theorem dX12_placeOf_20 : decode cX12_placeOf 20 = .ok (.ishl, 1) := by decide +kernel
theorem dX12_placeOf_21 : decode cX12_placeOf 21 = .ok (.iconst 1, 1) := by decide +kernel
theorem dX12_placeOf_22 : decode cX12_placeOf 22 = .ok (.isub, 1) := by decide +kernel
theorem dX12_placeOf_23 : decode cX12_placeOf 23 = .ok (.iand, 1) := by decide +kernel
theorem dX12_placeOf_24 : decode cX12_placeOf 24 = .ok (.istore 5, 2) := by decide +kernel
theorem dX12_placeOf_26 : decode cX12_placeOf 26 = .ok (.iload 4, 2) := by decide +kernel
theorem dX12_placeOf_28 : decode cX12_placeOf 28 = .ok (.iload_n 3, 1) := by decide +kernel
theorem dX12_placeOf_29 : decode cX12_placeOf 29 = .ok (.iconst 1, 1) := by decide +kernel
theorem dX12_placeOf_30 : decode cX12_placeOf 30 = .ok (.iadd, 1) := by decide +kernel
theorem dX12_placeOf_31 : decode cX12_placeOf 31 = .ok (.ishr, 1) := by decide +kernel
theorem dX12_placeOf_32 : decode cX12_placeOf 32 = .ok (.iload_n 3, 1) := by decide +kernel
theorem dX12_placeOf_33 : decode cX12_placeOf 33 = .ok (.ishl, 1) := by decide +kernel
theorem dX12_placeOf_34 : decode cX12_placeOf 34 = .ok (.istore 6, 2) := by decide +kernel
theorem dX12_placeOf_36 : decode cX12_placeOf 36 = .ok (.iload_n 2, 1) := by decide +kernel
theorem dX12_placeOf_37 : decode cX12_placeOf 37 = .ok (.iconst 3, 1) := by decide +kernel
theorem dX12_placeOf_38 : decode cX12_placeOf 38 = .ok (.ishl, 1) := by decide +kernel
theorem dX12_placeOf_39 : decode cX12_placeOf 39 = .ok (.iload 5, 2) := by decide +kernel
theorem dX12_placeOf_41 : decode cX12_placeOf 41 = .ok (.ior, 1) := by decide +kernel
theorem dX12_placeOf_42 : decode cX12_placeOf 42 = .ok (.iload 6, 2) := by decide +kernel
theorem dX12_placeOf_44 : decode cX12_placeOf 44 = .ok (.ior, 1) := by decide +kernel
theorem dX12_placeOf_45 : decode cX12_placeOf 45 = .ok (.istore_n 2, 1) := by decide +kernel
theorem dX12_placeOf_46 : decode cX12_placeOf 46 = .ok (.iinc 3 1, 3) := by decide +kernel
theorem dX12_placeOf_49 : decode cX12_placeOf 49 = .ok (.goto (-45), 3) := by decide +kernel
theorem dX12_placeOf_52 : decode cX12_placeOf 52 = .ok (.iload_n 2, 1) := by decide +kernel
theorem dX12_placeOf_53 : decode cX12_placeOf 53 = .ok (.ldc 157, 2) := by decide +kernel
theorem dX12_placeOf_55 : decode cX12_placeOf 55 = .ok (.iand, 1) := by decide +kernel
theorem dX12_placeOf_56 : decode cX12_placeOf 56 = .ok (.ireturn, 1) := by decide +kernel
theorem dX12_open_0 : decode cX12_open 0 = .ok (.aload_n 0, 1) := by decide +kernel
theorem dX12_open_1 : decode cX12_open 1 = .ok (.getfield 48, 3) := by decide +kernel
theorem dX12_open_4 : decode cX12_open 4 = .ok (.iload_n 1, 1) := by decide +kernel
theorem dX12_open_5 : decode cX12_open 5 = .ok (.iload_n 2, 1) := by decide +kernel
theorem dX12_open_6 : decode cX12_open 6 = .ok (.iastore, 1) := by decide +kernel
theorem dX12_open_7 : decode cX12_open 7 = .ok (.aload_n 0, 1) := by decide +kernel
theorem dX12_open_8 : decode cX12_open 8 = .ok (.getfield 51, 3) := by decide +kernel
theorem dX12_open_11 : decode cX12_open 11 = .ok (.iload_n 1, 1) := by decide +kernel
theorem dX12_open_12 : decode cX12_open 12 = .ok (.iload_n 3, 1) := by decide +kernel
theorem dX12_open_13 : decode cX12_open 13 = .ok (.iastore, 1) := by decide +kernel
theorem dX12_open_14 : decode cX12_open 14 = .ok (.aload_n 0, 1) := by decide +kernel
theorem dX12_open_15 : decode cX12_open 15 = .ok (.getfield 54, 3) := by decide +kernel
theorem dX12_open_18 : decode cX12_open 18 = .ok (.iload_n 1, 1) := by decide +kernel
theorem dX12_open_19 : decode cX12_open 19 = .ok (.iconst 0, 1) := by decide +kernel
theorem dX12_open_20 : decode cX12_open 20 = .ok (.iastore, 1) := by decide +kernel
theorem dX12_open_21 : decode cX12_open 21 = .ok (.iload_n 2, 1) := by decide +kernel
theorem dX12_open_22 : decode cX12_open 22 = .ok (.iload_n 3, 1) := by decide +kernel
theorem dX12_open_23 : decode cX12_open 23 = .ok (.invokestatic 158, 3) := by decide +kernel
theorem dX12_open_26 : decode cX12_open 26 = .ok (.istore 4, 2) := by decide +kernel
theorem dX12_open_28 : decode cX12_open 28 = .ok (.aload_n 0, 1) := by decide +kernel
theorem dX12_open_29 : decode cX12_open 29 = .ok (.getfield 35, 3) := by decide +kernel
theorem dX12_open_32 : decode cX12_open 32 = .ok (.iload 4, 2) := by decide +kernel
theorem dX12_open_34 : decode cX12_open 34 = .ok (.lconst 0, 1) := by decide +kernel
theorem dX12_open_35 : decode cX12_open 35 = .ok (.lastore, 1) := by decide +kernel
theorem dX12_open_36 : decode cX12_open 36 = .ok (.aload_n 0, 1) := by decide +kernel
theorem dX12_open_37 : decode cX12_open 37 = .ok (.getfield 39, 3) := by decide +kernel
theorem dX12_open_40 : decode cX12_open 40 = .ok (.iload 4, 2) := by decide +kernel
theorem dX12_open_42 : decode cX12_open 42 = .ok (.lconst 0, 1) := by decide +kernel
theorem dX12_open_43 : decode cX12_open 43 = .ok (.lastore, 1) := by decide +kernel
theorem dX12_open_44 : decode cX12_open 44 = .ok (.aload_n 0, 1) := by decide +kernel
theorem dX12_open_45 : decode cX12_open 45 = .ok (.getfield 42, 3) := by decide +kernel
theorem dX12_open_48 : decode cX12_open 48 = .ok (.iload 4, 2) := by decide +kernel
theorem dX12_open_50 : decode cX12_open 50 = .ok (.sipush 1000, 3) := by decide +kernel
theorem dX12_open_53 : decode cX12_open 53 = .ok (.iastore, 1) := by decide +kernel
theorem dX12_open_54 : decode cX12_open 54 = .ok (.aload_n 0, 1) := by decide +kernel
theorem dX12_open_55 : decode cX12_open 55 = .ok (.getfield 45, 3) := by decide +kernel
theorem dX12_open_58 : decode cX12_open 58 = .ok (.iload 4, 2) := by decide +kernel
theorem dX12_open_60 : decode cX12_open 60 = .ok (.iconst (-1), 1) := by decide +kernel
theorem dX12_open_61 : decode cX12_open 61 = .ok (.iastore, 1) := by decide +kernel
theorem dX12_open_62 : decode cX12_open 62 = .ok (.return_, 1) := by decide +kernel
theorem dX12_add_0 : decode cX12_add 0 = .ok (.aload_n 0, 1) := by decide +kernel
theorem dX12_add_1 : decode cX12_add 1 = .ok (.getfield 35, 3) := by decide +kernel
theorem dX12_add_4 : decode cX12_add 4 = .ok (.iload_n 1, 1) := by decide +kernel
theorem dX12_add_5 : decode cX12_add 5 = .ok (.dup2, 1) := by decide +kernel
theorem dX12_add_6 : decode cX12_add 6 = .ok (.laload, 1) := by decide +kernel
theorem dX12_add_7 : decode cX12_add 7 = .ok (.aload_n 0, 1) := by decide +kernel
theorem dX12_add_8 : decode cX12_add 8 = .ok (.getfield 35, 3) := by decide +kernel
theorem dX12_add_11 : decode cX12_add 11 = .ok (.iload_n 2, 1) := by decide +kernel
theorem dX12_add_12 : decode cX12_add 12 = .ok (.laload, 1) := by decide +kernel
theorem dX12_add_13 : decode cX12_add 13 = .ok (.ladd, 1) := by decide +kernel
theorem dX12_add_14 : decode cX12_add 14 = .ok (.lastore, 1) := by decide +kernel
theorem dX12_add_15 : decode cX12_add 15 = .ok (.aload_n 0, 1) := by decide +kernel
theorem dX12_add_16 : decode cX12_add 16 = .ok (.getfield 39, 3) := by decide +kernel
theorem dX12_add_19 : decode cX12_add 19 = .ok (.iload_n 1, 1) := by decide +kernel
theorem dX12_add_20 : decode cX12_add 20 = .ok (.dup2, 1) := by decide +kernel
theorem dX12_add_21 : decode cX12_add 21 = .ok (.laload, 1) := by decide +kernel
theorem dX12_add_22 : decode cX12_add 22 = .ok (.aload_n 0, 1) := by decide +kernel
theorem dX12_add_23 : decode cX12_add 23 = .ok (.getfield 39, 3) := by decide +kernel
theorem dX12_add_26 : decode cX12_add 26 = .ok (.iload_n 2, 1) := by decide +kernel
theorem dX12_add_27 : decode cX12_add 27 = .ok (.laload, 1) := by decide +kernel
theorem dX12_add_28 : decode cX12_add 28 = .ok (.ladd, 1) := by decide +kernel
theorem dX12_add_29 : decode cX12_add 29 = .ok (.lastore, 1) := by decide +kernel
theorem dX12_add_30 : decode cX12_add 30 = .ok (.aload_n 0, 1) := by decide +kernel
theorem dX12_add_31 : decode cX12_add 31 = .ok (.getfield 39, 3) := by decide +kernel
theorem dX12_add_34 : decode cX12_add 34 = .ok (.iload_n 2, 1) := by decide +kernel
theorem dX12_add_35 : decode cX12_add 35 = .ok (.laload, 1) := by decide +kernel
theorem dX12_add_36 : decode cX12_add 36 = .ok (.lconst 0, 1) := by decide +kernel
theorem dX12_add_37 : decode cX12_add 37 = .ok (.lcmp, 1) := by decide +kernel
theorem dX12_add_38 : decode cX12_add 38 = .ok (.ifCond .le 83, 3) := by decide +kernel
theorem dX12_add_41 : decode cX12_add 41 = .ok (.aload_n 0, 1) := by decide +kernel
theorem dX12_add_42 : decode cX12_add 42 = .ok (.getfield 42, 3) := by decide +kernel
theorem dX12_add_45 : decode cX12_add 45 = .ok (.iload_n 1, 1) := by decide +kernel
theorem dX12_add_46 : decode cX12_add 46 = .ok (.aload_n 0, 1) := by decide +kernel
theorem dX12_add_47 : decode cX12_add 47 = .ok (.getfield 42, 3) := by decide +kernel
theorem dX12_add_50 : decode cX12_add 50 = .ok (.iload_n 2, 1) := by decide +kernel
theorem dX12_add_51 : decode cX12_add 51 = .ok (.iaload, 1) := by decide +kernel
theorem dX12_add_52 : decode cX12_add 52 = .ok (.iconst 1, 1) := by decide +kernel
theorem dX12_add_53 : decode cX12_add 53 = .ok (.iadd, 1) := by decide +kernel
theorem dX12_add_54 : decode cX12_add 54 = .ok (.aload_n 0, 1) := by decide +kernel
theorem dX12_add_55 : decode cX12_add 55 = .ok (.getfield 42, 3) := by decide +kernel
theorem dX12_add_58 : decode cX12_add 58 = .ok (.iload_n 1, 1) := by decide +kernel
theorem dX12_add_59 : decode cX12_add 59 = .ok (.iaload, 1) := by decide +kernel
theorem dX12_add_60 : decode cX12_add 60 = .ok (.if_icmp .ge 14, 3) := by decide +kernel
theorem dX12_add_63 : decode cX12_add 63 = .ok (.aload_n 0, 1) := by decide +kernel
theorem dX12_add_64 : decode cX12_add 64 = .ok (.getfield 42, 3) := by decide +kernel
theorem dX12_add_67 : decode cX12_add 67 = .ok (.iload_n 2, 1) := by decide +kernel
theorem dX12_add_68 : decode cX12_add 68 = .ok (.iaload, 1) := by decide +kernel
theorem dX12_add_69 : decode cX12_add 69 = .ok (.iconst 1, 1) := by decide +kernel
theorem dX12_add_70 : decode cX12_add 70 = .ok (.iadd, 1) := by decide +kernel
theorem dX12_add_71 : decode cX12_add 71 = .ok (.goto 9, 3) := by decide +kernel
theorem dX12_add_74 : decode cX12_add 74 = .ok (.aload_n 0, 1) := by decide +kernel
theorem dX12_add_75 : decode cX12_add 75 = .ok (.getfield 42, 3) := by decide +kernel
theorem dX12_add_78 : decode cX12_add 78 = .ok (.iload_n 1, 1) := by decide +kernel
theorem dX12_add_79 : decode cX12_add 79 = .ok (.iaload, 1) := by decide +kernel
theorem dX12_add_80 : decode cX12_add 80 = .ok (.iastore, 1) := by decide +kernel
theorem dX12_add_81 : decode cX12_add 81 = .ok (.aload_n 0, 1) := by decide +kernel
theorem dX12_add_82 : decode cX12_add 82 = .ok (.getfield 45, 3) := by decide +kernel
theorem dX12_add_85 : decode cX12_add 85 = .ok (.iload_n 1, 1) := by decide +kernel
theorem dX12_add_86 : decode cX12_add 86 = .ok (.aload_n 0, 1) := by decide +kernel
theorem dX12_add_87 : decode cX12_add 87 = .ok (.getfield 45, 3) := by decide +kernel
theorem dX12_add_90 : decode cX12_add 90 = .ok (.iload_n 2, 1) := by decide +kernel
theorem dX12_add_91 : decode cX12_add 91 = .ok (.iaload, 1) := by decide +kernel
theorem dX12_add_92 : decode cX12_add 92 = .ok (.iconst 1, 1) := by decide +kernel
theorem dX12_add_93 : decode cX12_add 93 = .ok (.iadd, 1) := by decide +kernel
theorem dX12_add_94 : decode cX12_add 94 = .ok (.aload_n 0, 1) := by decide +kernel
theorem dX12_add_95 : decode cX12_add 95 = .ok (.getfield 45, 3) := by decide +kernel
theorem dX12_add_98 : decode cX12_add 98 = .ok (.iload_n 1, 1) := by decide +kernel
theorem dX12_add_99 : decode cX12_add 99 = .ok (.iaload, 1) := by decide +kernel
theorem dX12_add_100 : decode cX12_add 100 = .ok (.if_icmp .le 14, 3) := by decide +kernel
theorem dX12_add_103 : decode cX12_add 103 = .ok (.aload_n 0, 1) := by decide +kernel
theorem dX12_add_104 : decode cX12_add 104 = .ok (.getfield 45, 3) := by decide +kernel
theorem dX12_add_107 : decode cX12_add 107 = .ok (.iload_n 2, 1) := by decide +kernel
theorem dX12_add_108 : decode cX12_add 108 = .ok (.iaload, 1) := by decide +kernel
theorem dX12_add_109 : decode cX12_add 109 = .ok (.iconst 1, 1) := by decide +kernel
theorem dX12_add_110 : decode cX12_add 110 = .ok (.iadd, 1) := by decide +kernel
theorem dX12_add_111 : decode cX12_add 111 = .ok (.goto 9, 3) := by decide +kernel
theorem dX12_add_114 : decode cX12_add 114 = .ok (.aload_n 0, 1) := by decide +kernel
theorem dX12_add_115 : decode cX12_add 115 = .ok (.getfield 45, 3) := by decide +kernel
theorem dX12_add_118 : decode cX12_add 118 = .ok (.iload_n 1, 1) := by decide +kernel
theorem dX12_add_119 : decode cX12_add 119 = .ok (.iaload, 1) := by decide +kernel
theorem dX12_add_120 : decode cX12_add 120 = .ok (.iastore, 1) := by decide +kernel
theorem dX12_add_121 : decode cX12_add 121 = .ok (.return_, 1) := by decide +kernel
theorem dX12_close_0 : decode cX12_close 0 = .ok (.aload_n 0, 1) := by decide +kernel
theorem dX12_close_1 : decode cX12_close 1 = .ok (.getfield 32, 3) := by decide +kernel
theorem dX12_close_4 : decode cX12_close 4 = .ok (.iload_n 1, 1) := by decide +kernel
theorem dX12_close_5 : decode cX12_close 5 = .ok (.aload_n 0, 1) := by decide +kernel
theorem dX12_close_6 : decode cX12_close 6 = .ok (.getfield 161, 3) := by decide +kernel
theorem dX12_close_9 : decode cX12_close 9 = .ok (.iastore, 1) := by decide +kernel
theorem dX12_close_10 : decode cX12_close 10 = .ok (.aload_n 0, 1) := by decide +kernel
theorem dX12_close_11 : decode cX12_close 11 = .ok (.getfield 35, 3) := by decide +kernel
theorem dX12_close_14 : decode cX12_close 14 = .ok (.iload_n 1, 1) := by decide +kernel
theorem dX12_close_15 : decode cX12_close 15 = .ok (.laload, 1) := by decide +kernel
theorem dX12_close_16 : decode cX12_close 16 = .ok (.lconst 0, 1) := by decide +kernel
theorem dX12_close_17 : decode cX12_close 17 = .ok (.lcmp, 1) := by decide +kernel
theorem dX12_close_18 : decode cX12_close 18 = .ok (.ifCond .ne 67, 3) := by decide +kernel
theorem dX12_close_21 : decode cX12_close 21 = .ok (.aload_n 0, 1) := by decide +kernel
theorem dX12_close_22 : decode cX12_close 22 = .ok (.iload_n 2, 1) := by decide +kernel
theorem dX12_close_23 : decode cX12_close 23 = .ok (.aload_n 0, 1) := by decide +kernel
theorem dX12_close_24 : decode cX12_close 24 = .ok (.getfield 164, 3) := by decide +kernel
theorem dX12_close_27 : decode cX12_close 27 = .ok (.invokevirtual 167, 3) := by decide +kernel
theorem dX12_close_30 : decode cX12_close 30 = .ok (.istore_n 3, 1) := by decide +kernel
theorem dX12_close_31 : decode cX12_close 31 = .ok (.aload_n 0, 1) := by decide +kernel
theorem dX12_close_32 : decode cX12_close 32 = .ok (.getfield 35, 3) := by decide +kernel
theorem dX12_close_35 : decode cX12_close 35 = .ok (.iload_n 1, 1) := by decide +kernel
theorem dX12_close_36 : decode cX12_close 36 = .ok (.lconst 1, 1) := by decide +kernel
theorem dX12_close_37 : decode cX12_close 37 = .ok (.lastore, 1) := by decide +kernel
theorem dX12_close_38 : decode cX12_close 38 = .ok (.aload_n 0, 1) := by decide +kernel
theorem dX12_close_39 : decode cX12_close 39 = .ok (.getfield 39, 3) := by decide +kernel
theorem dX12_close_42 : decode cX12_close 42 = .ok (.iload_n 1, 1) := by decide +kernel
theorem dX12_close_43 : decode cX12_close 43 = .ok (.iload_n 3, 1) := by decide +kernel
theorem dX12_close_44 : decode cX12_close 44 = .ok (.ifCond .eq 7, 3) := by decide +kernel
theorem dX12_close_47 : decode cX12_close 47 = .ok (.lconst 1, 1) := by decide +kernel
theorem dX12_close_48 : decode cX12_close 48 = .ok (.goto 4, 3) := by decide +kernel
theorem dX12_close_51 : decode cX12_close 51 = .ok (.lconst 0, 1) := by decide +kernel
theorem dX12_close_52 : decode cX12_close 52 = .ok (.lastore, 1) := by decide +kernel
theorem dX12_close_53 : decode cX12_close 53 = .ok (.aload_n 0, 1) := by decide +kernel
theorem dX12_close_54 : decode cX12_close 54 = .ok (.getfield 42, 3) := by decide +kernel
theorem dX12_close_57 : decode cX12_close 57 = .ok (.iload_n 1, 1) := by decide +kernel
theorem dX12_close_58 : decode cX12_close 58 = .ok (.iload_n 3, 1) := by decide +kernel
theorem dX12_close_59 : decode cX12_close 59 = .ok (.ifCond .eq 7, 3) := by decide +kernel
theorem dX12_close_62 : decode cX12_close 62 = .ok (.iconst 0, 1) := by decide +kernel
theorem dX12_close_63 : decode cX12_close 63 = .ok (.goto 6, 3) := by decide +kernel
theorem dX12_close_66 : decode cX12_close 66 = .ok (.sipush 1000, 3) := by decide +kernel
theorem dX12_close_69 : decode cX12_close 69 = .ok (.iastore, 1) := by decide +kernel
theorem dX12_close_70 : decode cX12_close 70 = .ok (.aload_n 0, 1) := by decide +kernel
theorem dX12_close_71 : decode cX12_close 71 = .ok (.getfield 45, 3) := by decide +kernel
theorem dX12_close_74 : decode cX12_close 74 = .ok (.iload_n 1, 1) := by decide +kernel
theorem dX12_close_75 : decode cX12_close 75 = .ok (.iload_n 3, 1) := by decide +kernel
theorem dX12_close_76 : decode cX12_close 76 = .ok (.ifCond .eq 7, 3) := by decide +kernel
theorem dX12_close_79 : decode cX12_close 79 = .ok (.iconst 0, 1) := by decide +kernel
theorem dX12_close_80 : decode cX12_close 80 = .ok (.goto 4, 3) := by decide +kernel
theorem dX12_close_83 : decode cX12_close 83 = .ok (.iconst (-1), 1) := by decide +kernel
theorem dX12_close_84 : decode cX12_close 84 = .ok (.iastore, 1) := by decide +kernel
theorem dX12_close_85 : decode cX12_close 85 = .ok (.return_, 1) := by decide +kernel
theorem dX12_lay_0 : decode cX12_lay 0 = .ok (.iload_n 1, 1) := by decide +kernel
theorem dX12_lay_1 : decode cX12_lay 1 = .ok (.iload_n 2, 1) := by decide +kernel
theorem dX12_lay_2 : decode cX12_lay 2 = .ok (.invokestatic 158, 3) := by decide +kernel
theorem dX12_lay_5 : decode cX12_lay 5 = .ok (.istore_n 3, 1) := by decide +kernel
theorem dX12_lay_6 : decode cX12_lay 6 = .ok (.aload_n 0, 1) := by decide +kernel
theorem dX12_lay_7 : decode cX12_lay 7 = .ok (.getfield 32, 3) := by decide +kernel
theorem dX12_lay_10 : decode cX12_lay 10 = .ok (.iload_n 3, 1) := by decide +kernel
theorem dX12_lay_11 : decode cX12_lay 11 = .ok (.iaload, 1) := by decide +kernel
theorem dX12_lay_12 : decode cX12_lay 12 = .ok (.aload_n 0, 1) := by decide +kernel
theorem dX12_lay_13 : decode cX12_lay 13 = .ok (.getfield 161, 3) := by decide +kernel
theorem dX12_lay_16 : decode cX12_lay 16 = .ok (.if_icmp .ne 5, 3) := by decide +kernel
theorem dX12_lay_19 : decode cX12_lay 19 = .ok (.iload_n 3, 1) := by decide +kernel
theorem dX12_lay_20 : decode cX12_lay 20 = .ok (.ireturn, 1) := by decide +kernel
theorem dX12_lay_21 : decode cX12_lay 21 = .ok (.iconst 0, 1) := by decide +kernel
theorem dX12_lay_22 : decode cX12_lay 22 = .ok (.istore 4, 2) := by decide +kernel
theorem dX12_lay_24 : decode cX12_lay 24 = .ok (.aload_n 0, 1) := by decide +kernel
theorem dX12_lay_25 : decode cX12_lay 25 = .ok (.iconst 0, 1) := by decide +kernel
theorem dX12_lay_26 : decode cX12_lay 26 = .ok (.iload_n 1, 1) := by decide +kernel
theorem dX12_lay_27 : decode cX12_lay 27 = .ok (.iload_n 2, 1) := by decide +kernel
theorem dX12_lay_28 : decode cX12_lay 28 = .ok (.invokevirtual 170, 3) := by decide +kernel
theorem dX12_lay_31 : decode cX12_lay 31 = .ok (.iload 4, 2) := by decide +kernel
theorem dX12_lay_33 : decode cX12_lay 33 = .ok (.ifCond .lt 214, 3) := by decide +kernel
theorem dX12_lay_36 : decode cX12_lay 36 = .ok (.aload_n 0, 1) := by decide +kernel
theorem dX12_lay_37 : decode cX12_lay 37 = .ok (.getfield 48, 3) := by decide +kernel
theorem dX12_lay_40 : decode cX12_lay 40 = .ok (.iload 4, 2) := by decide +kernel
theorem dX12_lay_42 : decode cX12_lay 42 = .ok (.iaload, 1) := by decide +kernel
theorem dX12_lay_43 : decode cX12_lay 43 = .ok (.istore 5, 2) := by decide +kernel
theorem dX12_lay_45 : decode cX12_lay 45 = .ok (.aload_n 0, 1) := by decide +kernel
theorem dX12_lay_46 : decode cX12_lay 46 = .ok (.getfield 51, 3) := by decide +kernel
theorem dX12_lay_49 : decode cX12_lay 49 = .ok (.iload 4, 2) := by decide +kernel
theorem dX12_lay_51 : decode cX12_lay 51 = .ok (.iaload, 1) := by decide +kernel
theorem dX12_lay_52 : decode cX12_lay 52 = .ok (.istore 6, 2) := by decide +kernel
theorem dX12_lay_54 : decode cX12_lay 54 = .ok (.aload_n 0, 1) := by decide +kernel
theorem dX12_lay_55 : decode cX12_lay 55 = .ok (.getfield 54, 3) := by decide +kernel
theorem dX12_lay_58 : decode cX12_lay 58 = .ok (.iload 4, 2) := by decide +kernel
theorem dX12_lay_60 : decode cX12_lay 60 = .ok (.iaload, 1) := by decide +kernel
theorem dX12_lay_61 : decode cX12_lay 61 = .ok (.istore 7, 2) := by decide +kernel
theorem dX12_lay_63 : decode cX12_lay 63 = .ok (.iload 7, 2) := by decide +kernel
theorem dX12_lay_65 : decode cX12_lay 65 = .ok (.bipush 16, 2) := by decide +kernel
theorem dX12_lay_67 : decode cX12_lay 67 = .ok (.if_icmp .ne 22, 3) := by decide +kernel
theorem dX12_lay_70 : decode cX12_lay 70 = .ok (.aload_n 0, 1) := by decide +kernel
theorem dX12_lay_71 : decode cX12_lay 71 = .ok (.iload 5, 2) := by decide +kernel
theorem dX12_lay_73 : decode cX12_lay 73 = .ok (.iload 6, 2) := by decide +kernel
theorem dX12_lay_75 : decode cX12_lay 75 = .ok (.invokestatic 158, 3) := by decide +kernel
theorem dX12_lay_78 : decode cX12_lay 78 = .ok (.iload 5, 2) := by decide +kernel
theorem dX12_lay_80 : decode cX12_lay 80 = .ok (.invokevirtual 174, 3) := by decide +kernel
theorem dX12_lay_83 : decode cX12_lay 83 = .ok (.iinc 4 (-1), 3) := by decide +kernel
theorem dX12_lay_86 : decode cX12_lay 86 = .ok (.goto (-55), 3) := by decide +kernel
theorem dX12_lay_89 : decode cX12_lay 89 = .ok (.iload 7, 2) := by decide +kernel
theorem dX12_lay_91 : decode cX12_lay 91 = .ok (.iconst 4, 1) := by decide +kernel
theorem dX12_lay_92 : decode cX12_lay 92 = .ok (.idiv, 1) := by decide +kernel
theorem dX12_lay_93 : decode cX12_lay 93 = .ok (.istore 8, 2) := by decide +kernel
theorem dX12_lay_95 : decode cX12_lay 95 = .ok (.iload 7, 2) := by decide +kernel
theorem dX12_lay_97 : decode cX12_lay 97 = .ok (.iconst 4, 1) := by decide +kernel
theorem dX12_lay_98 : decode cX12_lay 98 = .ok (.irem, 1) := by decide +kernel
theorem dX12_lay_99 : decode cX12_lay 99 = .ok (.istore 9, 2) := by decide +kernel
theorem dX12_lay_101 : decode cX12_lay 101 = .ok (.iload 8, 2) := by decide +kernel
theorem dX12_lay_103 : decode cX12_lay 103 = .ok (.aload_n 0, 1) := by decide +kernel
theorem dX12_lay_104 : decode cX12_lay 104 = .ok (.getfield 164, 3) := by decide +kernel
theorem dX12_lay_107 : decode cX12_lay 107 = .ok (.if_icmp .ge 34, 3) := by decide +kernel
theorem dX12_lay_110 : decode cX12_lay 110 = .ok (.iload 9, 2) := by decide +kernel
theorem dX12_lay_112 : decode cX12_lay 112 = .ok (.aload_n 0, 1) := by decide +kernel
theorem dX12_lay_113 : decode cX12_lay 113 = .ok (.getfield 164, 3) := by decide +kernel
theorem dX12_lay_116 : decode cX12_lay 116 = .ok (.if_icmp .ge 25, 3) := by decide +kernel
theorem dX12_lay_119 : decode cX12_lay 119 = .ok (.aload_n 0, 1) := by decide +kernel
theorem dX12_lay_120 : decode cX12_lay 120 = .ok (.getfield 57, 3) := by decide +kernel
theorem dX12_lay_123 : decode cX12_lay 123 = .ok (.aload_n 0, 1) := by decide +kernel
theorem dX12_lay_124 : decode cX12_lay 124 = .ok (.getfield 178, 3) := by decide +kernel
theorem dX12_lay_127 : decode cX12_lay 127 = .ok (.iload 5, 2) := by decide +kernel
theorem dX12_lay_129 : decode cX12_lay 129 = .ok (.iload 6, 2) := by decide +kernel
theorem dX12_lay_131 : decode cX12_lay 131 = .ok (.iload 8, 2) := by decide +kernel
theorem dX12_lay_133 : decode cX12_lay 133 = .ok (.iload 9, 2) := by decide +kernel
theorem dX12_lay_135 : decode cX12_lay 135 = .ok (.invokestatic 153, 3) := by decide +kernel
theorem dX12_lay_138 : decode cX12_lay 138 = .ok (.ifCond .ne 17, 3) := by decide +kernel
theorem dX12_lay_141 : decode cX12_lay 141 = .ok (.aload_n 0, 1) := by decide +kernel
theorem dX12_lay_142 : decode cX12_lay 142 = .ok (.getfield 54, 3) := by decide +kernel
theorem dX12_lay_145 : decode cX12_lay 145 = .ok (.iload 4, 2) := by decide +kernel
theorem dX12_lay_147 : decode cX12_lay 147 = .ok (.dup2, 1) := by decide +kernel
theorem dX12_lay_148 : decode cX12_lay 148 = .ok (.iaload, 1) := by decide +kernel
theorem dX12_lay_149 : decode cX12_lay 149 = .ok (.iconst 1, 1) := by decide +kernel
theorem dX12_lay_150 : decode cX12_lay 150 = .ok (.iadd, 1) := by decide +kernel
theorem dX12_lay_151 : decode cX12_lay 151 = .ok (.iastore, 1) := by decide +kernel
theorem dX12_lay_152 : decode cX12_lay 152 = .ok (.goto (-121), 3) := by decide +kernel
theorem dX12_lay_155 : decode cX12_lay 155 = .ok (.iload 5, 2) := by decide +kernel
theorem dX12_lay_157 : decode cX12_lay 157 = .ok (.iload 8, 2) := by decide +kernel
theorem dX12_lay_159 : decode cX12_lay 159 = .ok (.iload 9, 2) := by decide +kernel
theorem dX12_lay_161 : decode cX12_lay 161 = .ok (.invokestatic 117, 3) := by decide +kernel
theorem dX12_lay_164 : decode cX12_lay 164 = .ok (.istore 10, 2) := by decide +kernel
theorem dX12_lay_166 : decode cX12_lay 166 = .ok (.iload 6, 2) := by decide +kernel
theorem dX12_lay_168 : decode cX12_lay 168 = .ok (.aload_n 0, 1) := by decide +kernel
theorem dX12_lay_169 : decode cX12_lay 169 = .ok (.getfield 178, 3) := by decide +kernel
theorem dX12_lay_172 : decode cX12_lay 172 = .ok (.iload 8, 2) := by decide +kernel
theorem dX12_lay_174 : decode cX12_lay 174 = .ok (.iload 9, 2) := by decide +kernel
theorem dX12_lay_176 : decode cX12_lay 176 = .ok (.invokestatic 121, 3) := by decide +kernel
theorem dX12_lay_179 : decode cX12_lay 179 = .ok (.istore 11, 2) := by decide +kernel
theorem dX12_lay_181 : decode cX12_lay 181 = .ok (.iload 10, 2) := by decide +kernel
theorem dX12_lay_183 : decode cX12_lay 183 = .ok (.iload 11, 2) := by decide +kernel
theorem dX12_lay_185 : decode cX12_lay 185 = .ok (.invokestatic 158, 3) := by decide +kernel
theorem dX12_lay_188 : decode cX12_lay 188 = .ok (.istore 12, 2) := by decide +kernel
theorem dX12_lay_190 : decode cX12_lay 190 = .ok (.aload_n 0, 1) := by decide +kernel
theorem dX12_lay_191 : decode cX12_lay 191 = .ok (.getfield 32, 3) := by decide +kernel
theorem dX12_lay_194 : decode cX12_lay 194 = .ok (.iload 12, 2) := by decide +kernel
theorem dX12_lay_196 : decode cX12_lay 196 = .ok (.iaload, 1) := by decide +kernel
theorem dX12_lay_197 : decode cX12_lay 197 = .ok (.aload_n 0, 1) := by decide +kernel
theorem dX12_lay_198 : decode cX12_lay 198 = .ok (.getfield 161, 3) := by decide +kernel
theorem dX12_lay_201 : decode cX12_lay 201 = .ok (.if_icmp .ne 30, 3) := by decide +kernel
theorem dX12_lay_204 : decode cX12_lay 204 = .ok (.aload_n 0, 1) := by decide +kernel
theorem dX12_lay_205 : decode cX12_lay 205 = .ok (.iload 5, 2) := by decide +kernel
theorem dX12_lay_207 : decode cX12_lay 207 = .ok (.iload 6, 2) := by decide +kernel
theorem dX12_lay_209 : decode cX12_lay 209 = .ok (.invokestatic 158, 3) := by decide +kernel
theorem dX12_lay_212 : decode cX12_lay 212 = .ok (.iload 12, 2) := by decide +kernel
theorem dX12_lay_214 : decode cX12_lay 214 = .ok (.invokevirtual 181, 3) := by decide +kernel
theorem dX12_lay_217 : decode cX12_lay 217 = .ok (.aload_n 0, 1) := by decide +kernel
theorem dX12_lay_218 : decode cX12_lay 218 = .ok (.getfield 54, 3) := by decide +kernel
theorem dX12_lay_221 : decode cX12_lay 221 = .ok (.iload 4, 2) := by decide +kernel
theorem dX12_lay_223 : decode cX12_lay 223 = .ok (.dup2, 1) := by decide +kernel
theorem dX12_lay_224 : decode cX12_lay 224 = .ok (.iaload, 1) := by decide +kernel
theorem dX12_lay_225 : decode cX12_lay 225 = .ok (.iconst 1, 1) := by decide +kernel
theorem dX12_lay_226 : decode cX12_lay 226 = .ok (.iadd, 1) := by decide +kernel
theorem dX12_lay_227 : decode cX12_lay 227 = .ok (.iastore, 1) := by decide +kernel
theorem dX12_lay_228 : decode cX12_lay 228 = .ok (.goto 16, 3) := by decide +kernel
theorem dX12_lay_231 : decode cX12_lay 231 = .ok (.iinc 4 1, 3) := by decide +kernel
theorem dX12_lay_234 : decode cX12_lay 234 = .ok (.aload_n 0, 1) := by decide +kernel
theorem dX12_lay_235 : decode cX12_lay 235 = .ok (.iload 4, 2) := by decide +kernel
theorem dX12_lay_237 : decode cX12_lay 237 = .ok (.iload 10, 2) := by decide +kernel
theorem dX12_lay_239 : decode cX12_lay 239 = .ok (.iload 11, 2) := by decide +kernel
theorem dX12_lay_241 : decode cX12_lay 241 = .ok (.invokevirtual 170, 3) := by decide +kernel
theorem dX12_lay_244 : decode cX12_lay 244 = .ok (.goto (-213), 3) := by decide +kernel
theorem dX12_lay_247 : decode cX12_lay 247 = .ok (.iload_n 3, 1) := by decide +kernel
theorem dX12_lay_248 : decode cX12_lay 248 = .ok (.ireturn, 1) := by decide +kernel
theorem dX12_lookAt_0 : decode cX12_lookAt 0 = .ok (.aload_n 0, 1) := by decide +kernel
theorem dX12_lookAt_1 : decode cX12_lookAt 1 = .ok (.dup, 1) := by decide +kernel
theorem dX12_lookAt_2 : decode cX12_lookAt 2 = .ok (.getfield 161, 3) := by decide +kernel
theorem dX12_lookAt_5 : decode cX12_lookAt 5 = .ok (.iconst 1, 1) := by decide +kernel
theorem dX12_lookAt_6 : decode cX12_lookAt 6 = .ok (.iadd, 1) := by decide +kernel
theorem dX12_lookAt_7 : decode cX12_lookAt 7 = .ok (.putfield 161, 3) := by decide +kernel
theorem dX12_lookAt_10 : decode cX12_lookAt 10 = .ok (.aload_n 0, 1) := by decide +kernel
theorem dX12_lookAt_11 : decode cX12_lookAt 11 = .ok (.aload_n 1, 1) := by decide +kernel
theorem dX12_lookAt_12 : decode cX12_lookAt 12 = .ok (.putfield 57, 3) := by decide +kernel
theorem dX12_lookAt_15 : decode cX12_lookAt 15 = .ok (.aload_n 0, 1) := by decide +kernel
theorem dX12_lookAt_16 : decode cX12_lookAt 16 = .ok (.iload_n 2, 1) := by decide +kernel
theorem dX12_lookAt_17 : decode cX12_lookAt 17 = .ok (.putfield 164, 3) := by decide +kernel
theorem dX12_lookAt_20 : decode cX12_lookAt 20 = .ok (.aload_n 0, 1) := by decide +kernel
theorem dX12_lookAt_21 : decode cX12_lookAt 21 = .ok (.iload_n 3, 1) := by decide +kernel
theorem dX12_lookAt_22 : decode cX12_lookAt 22 = .ok (.putfield 178, 3) := by decide +kernel
theorem dX12_lookAt_25 : decode cX12_lookAt 25 = .ok (.return_, 1) := by decide +kernel
theorem dX12_layNow_0 : decode cX12_layNow 0 = .ok (.aload_n 0, 1) := by decide +kernel
theorem dX12_layNow_1 : decode cX12_layNow 1 = .ok (.aload_n 0, 1) := by decide +kernel
theorem dX12_layNow_2 : decode cX12_layNow 2 = .ok (.getfield 19, 3) := by decide +kernel
theorem dX12_layNow_5 : decode cX12_layNow 5 = .ok (.aload_n 0, 1) := by decide +kernel
theorem dX12_layNow_6 : decode cX12_layNow 6 = .ok (.getfield 82, 3) := by decide +kernel
theorem dX12_layNow_9 : decode cX12_layNow 9 = .ok (.iload_n 1, 1) := by decide +kernel
theorem dX12_layNow_10 : decode cX12_layNow 10 = .ok (.invokevirtual 184, 3) := by decide +kernel
theorem dX12_layNow_13 : decode cX12_layNow 13 = .ok (.aload_n 0, 1) := by decide +kernel
theorem dX12_layNow_14 : decode cX12_layNow 14 = .ok (.aload_n 0, 1) := by decide +kernel
theorem dX12_layNow_15 : decode cX12_layNow 15 = .ok (.aload_n 0, 1) := by decide +kernel
theorem dX12_layNow_16 : decode cX12_layNow 16 = .ok (.getfield 103, 3) := by decide +kernel
theorem dX12_layNow_19 : decode cX12_layNow 19 = .ok (.invokevirtual 128, 3) := by decide +kernel
theorem dX12_layNow_22 : decode cX12_layNow 22 = .ok (.aload_n 0, 1) := by decide +kernel
theorem dX12_layNow_23 : decode cX12_layNow 23 = .ok (.iload_n 1, 1) := by decide +kernel
theorem dX12_layNow_24 : decode cX12_layNow 24 = .ok (.invokevirtual 135, 3) := by decide +kernel
theorem dX12_layNow_27 : decode cX12_layNow 27 = .ok (.invokevirtual 188, 3) := by decide +kernel
theorem dX12_layNow_30 : decode cX12_layNow 30 = .ok (.ireturn, 1) := by decide +kernel
theorem dX12_runs_0 : decode cX12_runs 0 = .ok (.iload_n 1, 1) := by decide +kernel
theorem dX12_runs_1 : decode cX12_runs 1 = .ok (.invokestatic 150, 3) := by decide +kernel
theorem dX12_runs_4 : decode cX12_runs 4 = .ok (.ifCond .eq 19, 3) := by decide +kernel
theorem dX12_runs_7 : decode cX12_runs 7 = .ok (.iload_n 2, 1) := by decide +kernel
theorem dX12_runs_8 : decode cX12_runs 8 = .ok (.iconst 0, 1) := by decide +kernel
theorem dX12_runs_9 : decode cX12_runs 9 = .ok (.iconst 1, 1) := by decide +kernel
theorem dX12_runs_10 : decode cX12_runs 10 = .ok (.invokestatic 78, 3) := by decide +kernel
theorem dX12_runs_13 : decode cX12_runs 13 = .ok (.ifCond .eq 10, 3) := by decide +kernel
theorem dX12_runs_16 : decode cX12_runs 16 = .ok (.aload_n 0, 1) := by decide +kernel
theorem dX12_runs_17 : decode cX12_runs 17 = .ok (.getfield 82, 3) := by decide +kernel
theorem dX12_runs_20 : decode cX12_runs 20 = .ok (.ifCond .ne 7, 3) := by decide +kernel
theorem dX12_runs_23 : decode cX12_runs 23 = .ok (.ldc2_w 76, 3) := by decide +kernel
theorem dX12_runs_26 : decode cX12_runs 26 = .ok (.lreturn, 1) := by decide +kernel
theorem dX12_runs_27 : decode cX12_runs 27 = .ok (.aload_n 0, 1) := by decide +kernel
theorem dX12_runs_28 : decode cX12_runs 28 = .ok (.iload_n 1, 1) := by decide +kernel
theorem dX12_runs_29 : decode cX12_runs 29 = .ok (.invokevirtual 191, 3) := by decide +kernel
theorem dX12_runs_32 : decode cX12_runs 32 = .ok (.istore_n 3, 1) := by decide +kernel
theorem dX12_runs_33 : decode cX12_runs 33 = .ok (.iload_n 2, 1) := by decide +kernel
theorem dX12_runs_34 : decode cX12_runs 34 = .ok (.ifCond .ne 12, 3) := by decide +kernel
theorem dX12_runs_37 : decode cX12_runs 37 = .ok (.aload_n 0, 1) := by decide +kernel
theorem dX12_runs_38 : decode cX12_runs 38 = .ok (.getfield 35, 3) := by decide +kernel
theorem dX12_runs_41 : decode cX12_runs 41 = .ok (.iload_n 3, 1) := by decide +kernel
theorem dX12_runs_42 : decode cX12_runs 42 = .ok (.laload, 1) := by decide +kernel
theorem dX12_runs_43 : decode cX12_runs 43 = .ok (.goto 9, 3) := by decide +kernel
theorem dX12_runs_46 : decode cX12_runs 46 = .ok (.aload_n 0, 1) := by decide +kernel
theorem dX12_runs_47 : decode cX12_runs 47 = .ok (.getfield 39, 3) := by decide +kernel
theorem dX12_runs_50 : decode cX12_runs 50 = .ok (.iload_n 3, 1) := by decide +kernel
theorem dX12_runs_51 : decode cX12_runs 51 = .ok (.laload, 1) := by decide +kernel
theorem dX12_runs_52 : decode cX12_runs 52 = .ok (.lreturn, 1) := by decide +kernel
theorem dX12_verdictAt_0 : decode cX12_verdictAt 0 = .ok (.aload_n 0, 1) := by decide +kernel
theorem dX12_verdictAt_1 : decode cX12_verdictAt 1 = .ok (.getfield 39, 3) := by decide +kernel
theorem dX12_verdictAt_4 : decode cX12_verdictAt 4 = .ok (.iload_n 1, 1) := by decide +kernel
theorem dX12_verdictAt_5 : decode cX12_verdictAt 5 = .ok (.laload, 1) := by decide +kernel
theorem dX12_verdictAt_6 : decode cX12_verdictAt 6 = .ok (.lconst 0, 1) := by decide +kernel
theorem dX12_verdictAt_7 : decode cX12_verdictAt 7 = .ok (.lcmp, 1) := by decide +kernel
theorem dX12_verdictAt_8 : decode cX12_verdictAt 8 = .ok (.ifCond .ne 7, 3) := by decide +kernel
theorem dX12_verdictAt_11 : decode cX12_verdictAt 11 = .ok (.iconst 0, 1) := by decide +kernel
theorem dX12_verdictAt_12 : decode cX12_verdictAt 12 = .ok (.goto 24, 3) := by decide +kernel
theorem dX12_verdictAt_15 : decode cX12_verdictAt 15 = .ok (.aload_n 0, 1) := by decide +kernel
theorem dX12_verdictAt_16 : decode cX12_verdictAt 16 = .ok (.getfield 39, 3) := by decide +kernel
theorem dX12_verdictAt_19 : decode cX12_verdictAt 19 = .ok (.iload_n 1, 1) := by decide +kernel
theorem dX12_verdictAt_20 : decode cX12_verdictAt 20 = .ok (.laload, 1) := by decide +kernel
theorem dX12_verdictAt_21 : decode cX12_verdictAt 21 = .ok (.aload_n 0, 1) := by decide +kernel
theorem dX12_verdictAt_22 : decode cX12_verdictAt 22 = .ok (.getfield 35, 3) := by decide +kernel
theorem dX12_verdictAt_25 : decode cX12_verdictAt 25 = .ok (.iload_n 1, 1) := by decide +kernel
theorem dX12_verdictAt_26 : decode cX12_verdictAt 26 = .ok (.laload, 1) := by decide +kernel
theorem dX12_verdictAt_27 : decode cX12_verdictAt 27 = .ok (.lcmp, 1) := by decide +kernel
theorem dX12_verdictAt_28 : decode cX12_verdictAt 28 = .ok (.ifCond .ne 7, 3) := by decide +kernel
theorem dX12_verdictAt_31 : decode cX12_verdictAt 31 = .ok (.iconst 2, 1) := by decide +kernel
theorem dX12_verdictAt_32 : decode cX12_verdictAt 32 = .ok (.goto 4, 3) := by decide +kernel
theorem dX12_verdictAt_35 : decode cX12_verdictAt 35 = .ok (.iconst 1, 1) := by decide +kernel
theorem dX12_verdictAt_36 : decode cX12_verdictAt 36 = .ok (.ireturn, 1) := by decide +kernel
theorem dX12_verdict_0 : decode cX12_verdict 0 = .ok (.iload_n 1, 1) := by decide +kernel
theorem dX12_verdict_1 : decode cX12_verdict 1 = .ok (.invokestatic 150, 3) := by decide +kernel
theorem dX12_verdict_4 : decode cX12_verdict 4 = .ok (.ifCond .ne 5, 3) := by decide +kernel
theorem dX12_verdict_7 : decode cX12_verdict 7 = .ok (.iconst (-1), 1) := by decide +kernel
theorem dX12_verdict_8 : decode cX12_verdict 8 = .ok (.ireturn, 1) := by decide +kernel
theorem dX12_verdict_9 : decode cX12_verdict 9 = .ok (.aload_n 0, 1) := by decide +kernel
theorem dX12_verdict_10 : decode cX12_verdict 10 = .ok (.getfield 82, 3) := by decide +kernel
theorem dX12_verdict_13 : decode cX12_verdict 13 = .ok (.ifCond .ne 8, 3) := by decide +kernel
theorem dX12_verdict_16 : decode cX12_verdict 16 = .ok (.bipush (-3), 2) := by decide +kernel
theorem dX12_verdict_18 : decode cX12_verdict 18 = .ok (.goto 12, 3) := by decide +kernel
theorem dX12_verdict_21 : decode cX12_verdict 21 = .ok (.aload_n 0, 1) := by decide +kernel
theorem dX12_verdict_22 : decode cX12_verdict 22 = .ok (.aload_n 0, 1) := by decide +kernel
theorem dX12_verdict_23 : decode cX12_verdict 23 = .ok (.iload_n 1, 1) := by decide +kernel
theorem dX12_verdict_24 : decode cX12_verdict 24 = .ok (.invokevirtual 191, 3) := by decide +kernel
theorem dX12_verdict_27 : decode cX12_verdict 27 = .ok (.invokevirtual 194, 3) := by decide +kernel
theorem dX12_verdict_30 : decode cX12_verdict 30 = .ok (.ireturn, 1) := by decide +kernel
theorem dX12_calls_0 : decode cX12_calls 0 = .ok (.iload_n 1, 1) := by decide +kernel
theorem dX12_calls_1 : decode cX12_calls 1 = .ok (.invokestatic 150, 3) := by decide +kernel
theorem dX12_calls_4 : decode cX12_calls 4 = .ok (.ifCond .ne 5, 3) := by decide +kernel
theorem dX12_calls_7 : decode cX12_calls 7 = .ok (.iconst (-1), 1) := by decide +kernel
theorem dX12_calls_8 : decode cX12_calls 8 = .ok (.ireturn, 1) := by decide +kernel
theorem dX12_calls_9 : decode cX12_calls 9 = .ok (.iload_n 2, 1) := by decide +kernel
theorem dX12_calls_10 : decode cX12_calls 10 = .ok (.iconst 0, 1) := by decide +kernel
theorem dX12_calls_11 : decode cX12_calls 11 = .ok (.iconst 1, 1) := by decide +kernel
theorem dX12_calls_12 : decode cX12_calls 12 = .ok (.invokestatic 78, 3) := by decide +kernel
theorem dX12_calls_15 : decode cX12_calls 15 = .ok (.ifCond .ne 6, 3) := by decide +kernel
theorem dX12_calls_18 : decode cX12_calls 18 = .ok (.bipush (-2), 2) := by decide +kernel
theorem dX12_calls_20 : decode cX12_calls 20 = .ok (.ireturn, 1) := by decide +kernel
theorem dX12_calls_21 : decode cX12_calls 21 = .ok (.aload_n 0, 1) := by decide +kernel
theorem dX12_calls_22 : decode cX12_calls 22 = .ok (.getfield 82, 3) := by decide +kernel
theorem dX12_calls_25 : decode cX12_calls 25 = .ok (.ifCond .ne 6, 3) := by decide +kernel
theorem dX12_calls_28 : decode cX12_calls 28 = .ok (.bipush (-3), 2) := by decide +kernel
theorem dX12_calls_30 : decode cX12_calls 30 = .ok (.ireturn, 1) := by decide +kernel
theorem dX12_calls_31 : decode cX12_calls 31 = .ok (.aload_n 0, 1) := by decide +kernel
theorem dX12_calls_32 : decode cX12_calls 32 = .ok (.iload_n 1, 1) := by decide +kernel
theorem dX12_calls_33 : decode cX12_calls 33 = .ok (.invokevirtual 191, 3) := by decide +kernel
theorem dX12_calls_36 : decode cX12_calls 36 = .ok (.istore_n 3, 1) := by decide +kernel
theorem dX12_calls_37 : decode cX12_calls 37 = .ok (.aload_n 0, 1) := by decide +kernel
theorem dX12_calls_38 : decode cX12_calls 38 = .ok (.getfield 39, 3) := by decide +kernel
theorem dX12_calls_41 : decode cX12_calls 41 = .ok (.iload_n 3, 1) := by decide +kernel
theorem dX12_calls_42 : decode cX12_calls 42 = .ok (.laload, 1) := by decide +kernel
theorem dX12_calls_43 : decode cX12_calls 43 = .ok (.lconst 0, 1) := by decide +kernel
theorem dX12_calls_44 : decode cX12_calls 44 = .ok (.lcmp, 1) := by decide +kernel
theorem dX12_calls_45 : decode cX12_calls 45 = .ok (.ifCond .ne 8, 3) := by decide +kernel
theorem dX12_calls_48 : decode cX12_calls 48 = .ok (.bipush (-9), 2) := by decide +kernel
theorem dX12_calls_50 : decode cX12_calls 50 = .ok (.goto 22, 3) := by decide +kernel
theorem dX12_calls_53 : decode cX12_calls 53 = .ok (.iload_n 2, 1) := by decide +kernel
theorem dX12_calls_54 : decode cX12_calls 54 = .ok (.ifCond .ne 12, 3) := by decide +kernel
theorem dX12_calls_57 : decode cX12_calls 57 = .ok (.aload_n 0, 1) := by decide +kernel
theorem dX12_calls_58 : decode cX12_calls 58 = .ok (.getfield 42, 3) := by decide +kernel
theorem dX12_calls_61 : decode cX12_calls 61 = .ok (.iload_n 3, 1) := by decide +kernel
theorem dX12_calls_62 : decode cX12_calls 62 = .ok (.iaload, 1) := by decide +kernel
theorem dX12_calls_63 : decode cX12_calls 63 = .ok (.goto 9, 3) := by decide +kernel
theorem dX12_calls_66 : decode cX12_calls 66 = .ok (.aload_n 0, 1) := by decide +kernel
theorem dX12_calls_67 : decode cX12_calls 67 = .ok (.getfield 45, 3) := by decide +kernel
theorem dX12_calls_70 : decode cX12_calls 70 = .ok (.iload_n 3, 1) := by decide +kernel
theorem dX12_calls_71 : decode cX12_calls 71 = .ok (.iaload, 1) := by decide +kernel
theorem dX12_calls_72 : decode cX12_calls 72 = .ok (.ireturn, 1) := by decide +kernel
theorem dX12_keeps_0 : decode cX12_keeps 0 = .ok (.iload_n 1, 1) := by decide +kernel
theorem dX12_keeps_1 : decode cX12_keeps 1 = .ok (.invokestatic 150, 3) := by decide +kernel
theorem dX12_keeps_4 : decode cX12_keeps 4 = .ok (.ifCond .eq 19, 3) := by decide +kernel
theorem dX12_keeps_7 : decode cX12_keeps 7 = .ok (.aload_n 0, 1) := by decide +kernel
theorem dX12_keeps_8 : decode cX12_keeps 8 = .ok (.iload_n 2, 1) := by decide +kernel
theorem dX12_keeps_9 : decode cX12_keeps 9 = .ok (.invokevirtual 125, 3) := by decide +kernel
theorem dX12_keeps_12 : decode cX12_keeps 12 = .ok (.ifCond .eq 11, 3) := by decide +kernel
theorem dX12_keeps_15 : decode cX12_keeps 15 = .ok (.aload_n 0, 1) := by decide +kernel
theorem dX12_keeps_16 : decode cX12_keeps 16 = .ok (.iload_n 3, 1) := by decide +kernel
theorem dX12_keeps_17 : decode cX12_keeps 17 = .ok (.invokevirtual 125, 3) := by decide +kernel
theorem dX12_keeps_20 : decode cX12_keeps 20 = .ok (.ifCond .ne 5, 3) := by decide +kernel
theorem dX12_keeps_23 : decode cX12_keeps 23 = .ok (.iconst (-1), 1) := by decide +kernel
theorem dX12_keeps_24 : decode cX12_keeps 24 = .ok (.ireturn, 1) := by decide +kernel
theorem dX12_keeps_25 : decode cX12_keeps 25 = .ok (.iload_n 2, 1) := by decide +kernel
theorem dX12_keeps_26 : decode cX12_keeps 26 = .ok (.iload_n 3, 1) := by decide +kernel
theorem dX12_keeps_27 : decode cX12_keeps 27 = .ok (.if_icmp .ne 6, 3) := by decide +kernel
theorem dX12_keeps_30 : decode cX12_keeps 30 = .ok (.bipush (-2), 2) := by decide +kernel
theorem dX12_keeps_32 : decode cX12_keeps 32 = .ok (.ireturn, 1) := by decide +kernel
theorem dX12_keeps_33 : decode cX12_keeps 33 = .ok (.aload_n 0, 1) := by decide +kernel
theorem dX12_keeps_34 : decode cX12_keeps 34 = .ok (.aload_n 0, 1) := by decide +kernel
theorem dX12_keeps_35 : decode cX12_keeps 35 = .ok (.getfield 103, 3) := by decide +kernel
theorem dX12_keeps_38 : decode cX12_keeps 38 = .ok (.invokevirtual 128, 3) := by decide +kernel
theorem dX12_keeps_41 : decode cX12_keeps 41 = .ok (.istore 4, 2) := by decide +kernel
theorem dX12_keeps_43 : decode cX12_keeps 43 = .ok (.aload_n 0, 1) := by decide +kernel
theorem dX12_keeps_44 : decode cX12_keeps 44 = .ok (.iload_n 1, 1) := by decide +kernel
theorem dX12_keeps_45 : decode cX12_keeps 45 = .ok (.invokevirtual 135, 3) := by decide +kernel
theorem dX12_keeps_48 : decode cX12_keeps 48 = .ok (.istore 5, 2) := by decide +kernel
theorem dX12_keeps_50 : decode cX12_keeps 50 = .ok (.aload_n 0, 1) := by decide +kernel
theorem dX12_keeps_51 : decode cX12_keeps 51 = .ok (.getfield 19, 3) := by decide +kernel
theorem dX12_keeps_54 : decode cX12_keeps 54 = .ok (.iload_n 1, 1) := by decide +kernel
theorem dX12_keeps_55 : decode cX12_keeps 55 = .ok (.iload 4, 2) := by decide +kernel
theorem dX12_keeps_57 : decode cX12_keeps 57 = .ok (.iload 5, 2) := by decide +kernel
theorem dX12_keeps_59 : decode cX12_keeps 59 = .ok (.iload_n 2, 1) := by decide +kernel
theorem dX12_keeps_60 : decode cX12_keeps 60 = .ok (.iload_n 3, 1) := by decide +kernel
theorem dX12_keeps_61 : decode cX12_keeps 61 = .ok (.invokestatic 153, 3) := by decide +kernel
theorem dX12_keeps_64 : decode cX12_keeps 64 = .ok (.ifCond .ne 6, 3) := by decide +kernel
theorem dX12_keeps_67 : decode cX12_keeps 67 = .ok (.bipush (-3), 2) := by decide +kernel
theorem dX12_keeps_69 : decode cX12_keeps 69 = .ok (.ireturn, 1) := by decide +kernel
theorem dX12_keeps_70 : decode cX12_keeps 70 = .ok (.aload_n 0, 1) := by decide +kernel
theorem dX12_keeps_71 : decode cX12_keeps 71 = .ok (.aload_n 0, 1) := by decide +kernel
theorem dX12_keeps_72 : decode cX12_keeps 72 = .ok (.getfield 19, 3) := by decide +kernel
theorem dX12_keeps_75 : decode cX12_keeps 75 = .ok (.aload_n 0, 1) := by decide +kernel
theorem dX12_keeps_76 : decode cX12_keeps 76 = .ok (.getfield 82, 3) := by decide +kernel
theorem dX12_keeps_79 : decode cX12_keeps 79 = .ok (.iload_n 1, 1) := by decide +kernel
theorem dX12_keeps_80 : decode cX12_keeps 80 = .ok (.invokevirtual 184, 3) := by decide +kernel
theorem dX12_keeps_83 : decode cX12_keeps 83 = .ok (.aload_n 0, 1) := by decide +kernel
theorem dX12_keeps_84 : decode cX12_keeps 84 = .ok (.aload_n 0, 1) := by decide +kernel
theorem dX12_keeps_85 : decode cX12_keeps 85 = .ok (.iload 4, 2) := by decide +kernel
theorem dX12_keeps_87 : decode cX12_keeps 87 = .ok (.iload_n 2, 1) := by decide +kernel
theorem dX12_keeps_88 : decode cX12_keeps 88 = .ok (.iload_n 3, 1) := by decide +kernel
theorem dX12_keeps_89 : decode cX12_keeps 89 = .ok (.invokestatic 117, 3) := by decide +kernel
theorem dX12_keeps_92 : decode cX12_keeps 92 = .ok (.iload 5, 2) := by decide +kernel
theorem dX12_keeps_94 : decode cX12_keeps 94 = .ok (.iload_n 1, 1) := by decide +kernel
theorem dX12_keeps_95 : decode cX12_keeps 95 = .ok (.iload_n 2, 1) := by decide +kernel
theorem dX12_keeps_96 : decode cX12_keeps 96 = .ok (.iload_n 3, 1) := by decide +kernel
theorem dX12_keeps_97 : decode cX12_keeps 97 = .ok (.invokestatic 121, 3) := by decide +kernel
theorem dX12_keeps_100 : decode cX12_keeps 100 = .ok (.invokevirtual 188, 3) := by decide +kernel
theorem dX12_keeps_103 : decode cX12_keeps 103 = .ok (.invokevirtual 194, 3) := by decide +kernel
theorem dX12_keeps_106 : decode cX12_keeps 106 = .ok (.ireturn, 1) := by decide +kernel
theorem dX12_best_0 : decode cX12_best 0 = .ok (.iload_n 1, 1) := by decide +kernel
theorem dX12_best_1 : decode cX12_best 1 = .ok (.invokestatic 150, 3) := by decide +kernel
theorem dX12_best_4 : decode cX12_best 4 = .ok (.ifCond .ne 5, 3) := by decide +kernel
theorem dX12_best_7 : decode cX12_best 7 = .ok (.iconst (-1), 1) := by decide +kernel
theorem dX12_best_8 : decode cX12_best 8 = .ok (.ireturn, 1) := by decide +kernel
theorem dX12_best_9 : decode cX12_best 9 = .ok (.iload_n 2, 1) := by decide +kernel
theorem dX12_best_10 : decode cX12_best 10 = .ok (.iconst 0, 1) := by decide +kernel
theorem dX12_best_11 : decode cX12_best 11 = .ok (.iconst 1, 1) := by decide +kernel
theorem dX12_best_12 : decode cX12_best 12 = .ok (.invokestatic 78, 3) := by decide +kernel
theorem dX12_best_15 : decode cX12_best 15 = .ok (.ifCond .ne 6, 3) := by decide +kernel
theorem dX12_best_18 : decode cX12_best 18 = .ok (.bipush (-2), 2) := by decide +kernel
theorem dX12_best_20 : decode cX12_best 20 = .ok (.ireturn, 1) := by decide +kernel
theorem dX12_best_21 : decode cX12_best 21 = .ok (.aload_n 0, 1) := by decide +kernel
theorem dX12_best_22 : decode cX12_best 22 = .ok (.getfield 82, 3) := by decide +kernel
theorem dX12_best_25 : decode cX12_best 25 = .ok (.ifCond .ne 6, 3) := by decide +kernel
theorem dX12_best_28 : decode cX12_best 28 = .ok (.bipush (-3), 2) := by decide +kernel
theorem dX12_best_30 : decode cX12_best 30 = .ok (.ireturn, 1) := by decide +kernel
theorem dX12_best_31 : decode cX12_best 31 = .ok (.aload_n 0, 1) := by decide +kernel
theorem dX12_best_32 : decode cX12_best 32 = .ok (.iload_n 1, 1) := by decide +kernel
theorem dX12_best_33 : decode cX12_best 33 = .ok (.invokevirtual 191, 3) := by decide +kernel
theorem dX12_best_36 : decode cX12_best 36 = .ok (.istore_n 3, 1) := by decide +kernel
theorem dX12_best_37 : decode cX12_best 37 = .ok (.aload_n 0, 1) := by decide +kernel
theorem dX12_best_38 : decode cX12_best 38 = .ok (.aload_n 0, 1) := by decide +kernel
theorem dX12_best_39 : decode cX12_best 39 = .ok (.getfield 103, 3) := by decide +kernel
theorem dX12_best_42 : decode cX12_best 42 = .ok (.invokevirtual 128, 3) := by decide +kernel
theorem dX12_best_45 : decode cX12_best 45 = .ok (.istore 4, 2) := by decide +kernel
theorem dX12_best_47 : decode cX12_best 47 = .ok (.aload_n 0, 1) := by decide +kernel
theorem dX12_best_48 : decode cX12_best 48 = .ok (.iload_n 1, 1) := by decide +kernel
theorem dX12_best_49 : decode cX12_best 49 = .ok (.invokevirtual 135, 3) := by decide +kernel
theorem dX12_best_52 : decode cX12_best 52 = .ok (.istore 5, 2) := by decide +kernel
theorem dX12_best_54 : decode cX12_best 54 = .ok (.aload_n 0, 1) := by decide +kernel
theorem dX12_best_55 : decode cX12_best 55 = .ok (.getfield 39, 3) := by decide +kernel
theorem dX12_best_58 : decode cX12_best 58 = .ok (.iload_n 3, 1) := by decide +kernel
theorem dX12_best_59 : decode cX12_best 59 = .ok (.laload, 1) := by decide +kernel
theorem dX12_best_60 : decode cX12_best 60 = .ok (.lconst 0, 1) := by decide +kernel
theorem dX12_best_61 : decode cX12_best 61 = .ok (.lcmp, 1) := by decide +kernel
theorem dX12_best_62 : decode cX12_best 62 = .ok (.ifCond .ne 6, 3) := by decide +kernel
theorem dX12_best_65 : decode cX12_best 65 = .ok (.bipush (-9), 2) := by decide +kernel
theorem dX12_best_67 : decode cX12_best 67 = .ok (.ireturn, 1) := by decide +kernel
theorem dX12_best_68 : decode cX12_best 68 = .ok (.iconst 0, 1) := by decide +kernel
theorem dX12_best_69 : decode cX12_best 69 = .ok (.istore 6, 2) := by decide +kernel
theorem dX12_best_71 : decode cX12_best 71 = .ok (.iload 6, 2) := by decide +kernel
theorem dX12_best_73 : decode cX12_best 73 = .ok (.bipush 16, 2) := by decide +kernel
theorem dX12_best_75 : decode cX12_best 75 = .ok (.if_icmp .ge 127, 3) := by decide +kernel
theorem dX12_best_78 : decode cX12_best 78 = .ok (.iload 6, 2) := by decide +kernel
theorem dX12_best_80 : decode cX12_best 80 = .ok (.iconst 4, 1) := by decide +kernel
theorem dX12_best_81 : decode cX12_best 81 = .ok (.idiv, 1) := by decide +kernel
theorem dX12_best_82 : decode cX12_best 82 = .ok (.istore 7, 2) := by decide +kernel
theorem dX12_best_84 : decode cX12_best 84 = .ok (.iload 6, 2) := by decide +kernel
theorem dX12_best_86 : decode cX12_best 86 = .ok (.iconst 4, 1) := by decide +kernel
theorem dX12_best_87 : decode cX12_best 87 = .ok (.irem, 1) := by decide +kernel
theorem dX12_best_88 : decode cX12_best 88 = .ok (.istore 8, 2) := by decide +kernel
theorem dX12_best_90 : decode cX12_best 90 = .ok (.iload 7, 2) := by decide +kernel
theorem dX12_best_92 : decode cX12_best 92 = .ok (.aload_n 0, 1) := by decide +kernel
theorem dX12_best_93 : decode cX12_best 93 = .ok (.getfield 82, 3) := by decide +kernel
theorem dX12_best_96 : decode cX12_best 96 = .ok (.if_icmp .ge 100, 3) := by decide +kernel
theorem dX12_best_99 : decode cX12_best 99 = .ok (.iload 8, 2) := by decide +kernel
theorem dX12_best_101 : decode cX12_best 101 = .ok (.aload_n 0, 1) := by decide +kernel
theorem dX12_best_102 : decode cX12_best 102 = .ok (.getfield 82, 3) := by decide +kernel
theorem dX12_best_105 : decode cX12_best 105 = .ok (.if_icmp .ge 91, 3) := by decide +kernel
theorem dX12_best_108 : decode cX12_best 108 = .ok (.aload_n 0, 1) := by decide +kernel
theorem dX12_best_109 : decode cX12_best 109 = .ok (.getfield 19, 3) := by decide +kernel
theorem dX12_best_112 : decode cX12_best 112 = .ok (.iload_n 1, 1) := by decide +kernel
theorem dX12_best_113 : decode cX12_best 113 = .ok (.iload 4, 2) := by decide +kernel
theorem dX12_best_115 : decode cX12_best 115 = .ok (.iload 5, 2) := by decide +kernel
theorem dX12_best_117 : decode cX12_best 117 = .ok (.iload 7, 2) := by decide +kernel
theorem dX12_best_119 : decode cX12_best 119 = .ok (.iload 8, 2) := by decide +kernel
theorem dX12_best_121 : decode cX12_best 121 = .ok (.invokestatic 153, 3) := by decide +kernel
theorem dX12_best_124 : decode cX12_best 124 = .ok (.ifCond .ne 6, 3) := by decide +kernel
theorem dX12_best_127 : decode cX12_best 127 = .ok (.goto 69, 3) := by decide +kernel
theorem dX12_best_130 : decode cX12_best 130 = .ok (.iload 4, 2) := by decide +kernel
theorem dX12_best_132 : decode cX12_best 132 = .ok (.iload 7, 2) := by decide +kernel
theorem dX12_best_134 : decode cX12_best 134 = .ok (.iload 8, 2) := by decide +kernel
theorem dX12_best_136 : decode cX12_best 136 = .ok (.invokestatic 117, 3) := by decide +kernel
theorem dX12_best_139 : decode cX12_best 139 = .ok (.iload 5, 2) := by decide +kernel
theorem dX12_best_141 : decode cX12_best 141 = .ok (.iload_n 1, 1) := by decide +kernel
theorem dX12_best_142 : decode cX12_best 142 = .ok (.iload 7, 2) := by decide +kernel
theorem dX12_best_144 : decode cX12_best 144 = .ok (.iload 8, 2) := by decide +kernel
theorem dX12_best_146 : decode cX12_best 146 = .ok (.invokestatic 121, 3) := by decide +kernel
theorem dX12_best_149 : decode cX12_best 149 = .ok (.invokestatic 158, 3) := by decide +kernel
theorem dX12_best_152 : decode cX12_best 152 = .ok (.istore 9, 2) := by decide +kernel
theorem dX12_best_154 : decode cX12_best 154 = .ok (.aload_n 0, 1) := by decide +kernel
theorem dX12_best_155 : decode cX12_best 155 = .ok (.getfield 39, 3) := by decide +kernel
theorem dX12_best_158 : decode cX12_best 158 = .ok (.iload 9, 2) := by decide +kernel
theorem dX12_best_160 : decode cX12_best 160 = .ok (.laload, 1) := by decide +kernel
theorem dX12_best_161 : decode cX12_best 161 = .ok (.lconst 0, 1) := by decide +kernel
theorem dX12_best_162 : decode cX12_best 162 = .ok (.lcmp, 1) := by decide +kernel
theorem dX12_best_163 : decode cX12_best 163 = .ok (.ifCond .le 33, 3) := by decide +kernel
theorem dX12_best_166 : decode cX12_best 166 = .ok (.aload_n 0, 1) := by decide +kernel
theorem dX12_best_167 : decode cX12_best 167 = .ok (.getfield 42, 3) := by decide +kernel
theorem dX12_best_170 : decode cX12_best 170 = .ok (.iload 9, 2) := by decide +kernel
theorem dX12_best_172 : decode cX12_best 172 = .ok (.iaload, 1) := by decide +kernel
theorem dX12_best_173 : decode cX12_best 173 = .ok (.iconst 1, 1) := by decide +kernel
theorem dX12_best_174 : decode cX12_best 174 = .ok (.iadd, 1) := by decide +kernel
theorem dX12_best_175 : decode cX12_best 175 = .ok (.aload_n 0, 1) := by decide +kernel
theorem dX12_best_176 : decode cX12_best 176 = .ok (.getfield 42, 3) := by decide +kernel
theorem dX12_best_179 : decode cX12_best 179 = .ok (.iload_n 3, 1) := by decide +kernel
theorem dX12_best_180 : decode cX12_best 180 = .ok (.iaload, 1) := by decide +kernel
theorem dX12_best_181 : decode cX12_best 181 = .ok (.if_icmp .ne 15, 3) := by decide +kernel
theorem dX12_best_184 : decode cX12_best 184 = .ok (.iload_n 2, 1) := by decide +kernel
theorem dX12_best_185 : decode cX12_best 185 = .ok (.ifCond .ne 8, 3) := by decide +kernel
theorem dX12_best_188 : decode cX12_best 188 = .ok (.iload 7, 2) := by decide +kernel
theorem dX12_best_190 : decode cX12_best 190 = .ok (.goto 5, 3) := by decide +kernel
theorem dX12_best_193 : decode cX12_best 193 = .ok (.iload 8, 2) := by decide +kernel
theorem dX12_best_195 : decode cX12_best 195 = .ok (.ireturn, 1) := by decide +kernel
theorem dX12_best_196 : decode cX12_best 196 = .ok (.iinc 6 1, 3) := by decide +kernel
theorem dX12_best_199 : decode cX12_best 199 = .ok (.goto (-128), 3) := by decide +kernel
theorem dX12_best_202 : decode cX12_best 202 = .ok (.bipush (-9), 2) := by decide +kernel
theorem dX12_best_204 : decode cX12_best 204 = .ok (.ireturn, 1) := by decide +kernel
theorem dX12_layRow_0 : decode cX12_layRow 0 = .ok (.iload_n 1, 1) := by decide +kernel
theorem dX12_layRow_1 : decode cX12_layRow 1 = .ok (.istore_n 2, 1) := by decide +kernel
theorem dX12_layRow_2 : decode cX12_layRow 2 = .ok (.aload_n 0, 1) := by decide +kernel
theorem dX12_layRow_3 : decode cX12_layRow 3 = .ok (.aload_n 0, 1) := by decide +kernel
theorem dX12_layRow_4 : decode cX12_layRow 4 = .ok (.getfield 82, 3) := by decide +kernel
theorem dX12_layRow_7 : decode cX12_layRow 7 = .ok (.invokevirtual 114, 3) := by decide +kernel
theorem dX12_layRow_10 : decode cX12_layRow 10 = .ok (.istore_n 3, 1) := by decide +kernel
theorem dX12_layRow_11 : decode cX12_layRow 11 = .ok (.iconst 0, 1) := by decide +kernel
theorem dX12_layRow_12 : decode cX12_layRow 12 = .ok (.istore 4, 2) := by decide +kernel
theorem dX12_layRow_14 : decode cX12_layRow 14 = .ok (.iload 4, 2) := by decide +kernel
theorem dX12_layRow_16 : decode cX12_layRow 16 = .ok (.aload_n 0, 1) := by decide +kernel
theorem dX12_layRow_17 : decode cX12_layRow 17 = .ok (.getfield 103, 3) := by decide +kernel
theorem dX12_layRow_20 : decode cX12_layRow 20 = .ok (.if_icmp .ge 131, 3) := by decide +kernel
theorem dX12_layRow_23 : decode cX12_layRow 23 = .ok (.aload_n 0, 1) := by decide +kernel
theorem dX12_layRow_24 : decode cX12_layRow 24 = .ok (.getfield 60, 3) := by decide +kernel
theorem dX12_layRow_27 : decode cX12_layRow 27 = .ok (.iload 4, 2) := by decide +kernel
theorem dX12_layRow_29 : decode cX12_layRow 29 = .ok (.iload_n 2, 1) := by decide +kernel
theorem dX12_layRow_30 : decode cX12_layRow 30 = .ok (.bipush 16, 2) := by decide +kernel
theorem dX12_layRow_32 : decode cX12_layRow 32 = .ok (.irem, 1) := by decide +kernel
theorem dX12_layRow_33 : decode cX12_layRow 33 = .ok (.iconst 4, 1) := by decide +kernel
theorem dX12_layRow_34 : decode cX12_layRow 34 = .ok (.idiv, 1) := by decide +kernel
theorem dX12_layRow_35 : decode cX12_layRow 35 = .ok (.iastore, 1) := by decide +kernel
theorem dX12_layRow_36 : decode cX12_layRow 36 = .ok (.aload_n 0, 1) := by decide +kernel
theorem dX12_layRow_37 : decode cX12_layRow 37 = .ok (.getfield 63, 3) := by decide +kernel
theorem dX12_layRow_40 : decode cX12_layRow 40 = .ok (.iload 4, 2) := by decide +kernel
theorem dX12_layRow_42 : decode cX12_layRow 42 = .ok (.iload_n 2, 1) := by decide +kernel
theorem dX12_layRow_43 : decode cX12_layRow 43 = .ok (.iconst 4, 1) := by decide +kernel
theorem dX12_layRow_44 : decode cX12_layRow 44 = .ok (.irem, 1) := by decide +kernel
theorem dX12_layRow_45 : decode cX12_layRow 45 = .ok (.iastore, 1) := by decide +kernel
theorem dX12_layRow_46 : decode cX12_layRow 46 = .ok (.iload_n 2, 1) := by decide +kernel
theorem dX12_layRow_47 : decode cX12_layRow 47 = .ok (.bipush 16, 2) := by decide +kernel
theorem dX12_layRow_49 : decode cX12_layRow 49 = .ok (.idiv, 1) := by decide +kernel
theorem dX12_layRow_50 : decode cX12_layRow 50 = .ok (.istore_n 2, 1) := by decide +kernel
theorem dX12_layRow_51 : decode cX12_layRow 51 = .ok (.aload_n 0, 1) := by decide +kernel
theorem dX12_layRow_52 : decode cX12_layRow 52 = .ok (.aload_n 0, 1) := by decide +kernel
theorem dX12_layRow_53 : decode cX12_layRow 53 = .ok (.getfield 60, 3) := by decide +kernel
theorem dX12_layRow_56 : decode cX12_layRow 56 = .ok (.iload 4, 2) := by decide +kernel
theorem dX12_layRow_58 : decode cX12_layRow 58 = .ok (.iaload, 1) := by decide +kernel
theorem dX12_layRow_59 : decode cX12_layRow 59 = .ok (.invokevirtual 125, 3) := by decide +kernel
theorem dX12_layRow_62 : decode cX12_layRow 62 = .ok (.ifCond .eq 62, 3) := by decide +kernel
theorem dX12_layRow_65 : decode cX12_layRow 65 = .ok (.aload_n 0, 1) := by decide +kernel
theorem dX12_layRow_66 : decode cX12_layRow 66 = .ok (.aload_n 0, 1) := by decide +kernel
theorem dX12_layRow_67 : decode cX12_layRow 67 = .ok (.getfield 63, 3) := by decide +kernel
theorem dX12_layRow_70 : decode cX12_layRow 70 = .ok (.iload 4, 2) := by decide +kernel
theorem dX12_layRow_72 : decode cX12_layRow 72 = .ok (.iaload, 1) := by decide +kernel
theorem dX12_layRow_73 : decode cX12_layRow 73 = .ok (.invokevirtual 125, 3) := by decide +kernel
theorem dX12_layRow_76 : decode cX12_layRow 76 = .ok (.ifCond .eq 48, 3) := by decide +kernel
theorem dX12_layRow_79 : decode cX12_layRow 79 = .ok (.aload_n 0, 1) := by decide +kernel
theorem dX12_layRow_80 : decode cX12_layRow 80 = .ok (.getfield 60, 3) := by decide +kernel
theorem dX12_layRow_83 : decode cX12_layRow 83 = .ok (.iload 4, 2) := by decide +kernel
theorem dX12_layRow_85 : decode cX12_layRow 85 = .ok (.iaload, 1) := by decide +kernel
theorem dX12_layRow_86 : decode cX12_layRow 86 = .ok (.aload_n 0, 1) := by decide +kernel
theorem dX12_layRow_87 : decode cX12_layRow 87 = .ok (.getfield 63, 3) := by decide +kernel
theorem dX12_layRow_90 : decode cX12_layRow 90 = .ok (.iload 4, 2) := by decide +kernel
theorem dX12_layRow_92 : decode cX12_layRow 92 = .ok (.iaload, 1) := by decide +kernel
theorem dX12_layRow_93 : decode cX12_layRow 93 = .ok (.if_icmp .eq 31, 3) := by decide +kernel
theorem dX12_layRow_96 : decode cX12_layRow 96 = .ok (.aload_n 0, 1) := by decide +kernel
theorem dX12_layRow_97 : decode cX12_layRow 97 = .ok (.getfield 19, 3) := by decide +kernel
theorem dX12_layRow_100 : decode cX12_layRow 100 = .ok (.iload_n 3, 1) := by decide +kernel
theorem dX12_layRow_101 : decode cX12_layRow 101 = .ok (.aload_n 0, 1) := by decide +kernel
theorem dX12_layRow_102 : decode cX12_layRow 102 = .ok (.getfield 60, 3) := by decide +kernel
theorem dX12_layRow_105 : decode cX12_layRow 105 = .ok (.iload 4, 2) := by decide +kernel
theorem dX12_layRow_107 : decode cX12_layRow 107 = .ok (.iaload, 1) := by decide +kernel
theorem dX12_layRow_108 : decode cX12_layRow 108 = .ok (.invokestatic 131, 3) := by decide +kernel
theorem dX12_layRow_111 : decode cX12_layRow 111 = .ok (.aload_n 0, 1) := by decide +kernel
theorem dX12_layRow_112 : decode cX12_layRow 112 = .ok (.getfield 63, 3) := by decide +kernel
theorem dX12_layRow_115 : decode cX12_layRow 115 = .ok (.iload 4, 2) := by decide +kernel
theorem dX12_layRow_117 : decode cX12_layRow 117 = .ok (.iaload, 1) := by decide +kernel
theorem dX12_layRow_118 : decode cX12_layRow 118 = .ok (.invokestatic 106, 3) := by decide +kernel
theorem dX12_layRow_121 : decode cX12_layRow 121 = .ok (.ifCond .ne 5, 3) := by decide +kernel
theorem dX12_layRow_124 : decode cX12_layRow 124 = .ok (.iconst (-1), 1) := by decide +kernel
theorem dX12_layRow_125 : decode cX12_layRow 125 = .ok (.ireturn, 1) := by decide +kernel
theorem dX12_layRow_126 : decode cX12_layRow 126 = .ok (.iload_n 3, 1) := by decide +kernel
theorem dX12_layRow_127 : decode cX12_layRow 127 = .ok (.aload_n 0, 1) := by decide +kernel
theorem dX12_layRow_128 : decode cX12_layRow 128 = .ok (.getfield 60, 3) := by decide +kernel
theorem dX12_layRow_131 : decode cX12_layRow 131 = .ok (.iload 4, 2) := by decide +kernel
theorem dX12_layRow_133 : decode cX12_layRow 133 = .ok (.iaload, 1) := by decide +kernel
theorem dX12_layRow_134 : decode cX12_layRow 134 = .ok (.aload_n 0, 1) := by decide +kernel
theorem dX12_layRow_135 : decode cX12_layRow 135 = .ok (.getfield 63, 3) := by decide +kernel
theorem dX12_layRow_138 : decode cX12_layRow 138 = .ok (.iload 4, 2) := by decide +kernel
theorem dX12_layRow_140 : decode cX12_layRow 140 = .ok (.iaload, 1) := by decide +kernel
theorem dX12_layRow_141 : decode cX12_layRow 141 = .ok (.invokestatic 117, 3) := by decide +kernel
theorem dX12_layRow_144 : decode cX12_layRow 144 = .ok (.istore_n 3, 1) := by decide +kernel
theorem dX12_layRow_145 : decode cX12_layRow 145 = .ok (.iinc 4 1, 3) := by decide +kernel
theorem dX12_layRow_148 : decode cX12_layRow 148 = .ok (.goto (-134), 3) := by decide +kernel
theorem dX12_layRow_151 : decode cX12_layRow 151 = .ok (.iload_n 3, 1) := by decide +kernel
theorem dX12_layRow_152 : decode cX12_layRow 152 = .ok (.ireturn, 1) := by decide +kernel
theorem dX12_seesAlike_0 : decode cX12_seesAlike 0 = .ok (.aload_n 0, 1) := by decide +kernel
theorem dX12_seesAlike_1 : decode cX12_seesAlike 1 = .ok (.aload_n 0, 1) := by decide +kernel
theorem dX12_seesAlike_2 : decode cX12_seesAlike 2 = .ok (.getfield 82, 3) := by decide +kernel
theorem dX12_seesAlike_5 : decode cX12_seesAlike 5 = .ok (.invokevirtual 114, 3) := by decide +kernel
theorem dX12_seesAlike_8 : decode cX12_seesAlike 8 = .ok (.istore_n 2, 1) := by decide +kernel
theorem dX12_seesAlike_9 : decode cX12_seesAlike 9 = .ok (.iload_n 2, 1) := by decide +kernel
theorem dX12_seesAlike_10 : decode cX12_seesAlike 10 = .ok (.istore_n 3, 1) := by decide +kernel
theorem dX12_seesAlike_11 : decode cX12_seesAlike 11 = .ok (.iconst 0, 1) := by decide +kernel
theorem dX12_seesAlike_12 : decode cX12_seesAlike 12 = .ok (.istore 4, 2) := by decide +kernel
theorem dX12_seesAlike_14 : decode cX12_seesAlike 14 = .ok (.iload 4, 2) := by decide +kernel
theorem dX12_seesAlike_16 : decode cX12_seesAlike 16 = .ok (.aload_n 0, 1) := by decide +kernel
theorem dX12_seesAlike_17 : decode cX12_seesAlike 17 = .ok (.getfield 103, 3) := by decide +kernel
theorem dX12_seesAlike_20 : decode cX12_seesAlike 20 = .ok (.if_icmp .ge 166, 3) := by decide +kernel
theorem dX12_seesAlike_23 : decode cX12_seesAlike 23 = .ok (.aload_n 0, 1) := by decide +kernel
theorem dX12_seesAlike_24 : decode cX12_seesAlike 24 = .ok (.getfield 25, 3) := by decide +kernel
theorem dX12_seesAlike_27 : decode cX12_seesAlike 27 = .ok (.iload 4, 2) := by decide +kernel
theorem dX12_seesAlike_29 : decode cX12_seesAlike 29 = .ok (.iaload, 1) := by decide +kernel
theorem dX12_seesAlike_30 : decode cX12_seesAlike 30 = .ok (.iload_n 1, 1) := by decide +kernel
theorem dX12_seesAlike_31 : decode cX12_seesAlike 31 = .ok (.if_icmp .eq 14, 3) := by decide +kernel
theorem dX12_seesAlike_34 : decode cX12_seesAlike 34 = .ok (.aload_n 0, 1) := by decide +kernel
theorem dX12_seesAlike_35 : decode cX12_seesAlike 35 = .ok (.getfield 28, 3) := by decide +kernel
theorem dX12_seesAlike_38 : decode cX12_seesAlike 38 = .ok (.iload 4, 2) := by decide +kernel
theorem dX12_seesAlike_40 : decode cX12_seesAlike 40 = .ok (.iaload, 1) := by decide +kernel
theorem dX12_seesAlike_41 : decode cX12_seesAlike 41 = .ok (.iload_n 1, 1) := by decide +kernel
theorem dX12_seesAlike_42 : decode cX12_seesAlike 42 = .ok (.if_icmp .ne 7, 3) := by decide +kernel
theorem dX12_seesAlike_45 : decode cX12_seesAlike 45 = .ok (.iconst 1, 1) := by decide +kernel
theorem dX12_seesAlike_46 : decode cX12_seesAlike 46 = .ok (.goto 4, 3) := by decide +kernel
theorem dX12_seesAlike_49 : decode cX12_seesAlike 49 = .ok (.iconst 0, 1) := by decide +kernel
theorem dX12_seesAlike_50 : decode cX12_seesAlike 50 = .ok (.istore 5, 2) := by decide +kernel
theorem dX12_seesAlike_52 : decode cX12_seesAlike 52 = .ok (.aload_n 0, 1) := by decide +kernel
theorem dX12_seesAlike_53 : decode cX12_seesAlike 53 = .ok (.getfield 60, 3) := by decide +kernel
theorem dX12_seesAlike_56 : decode cX12_seesAlike 56 = .ok (.iload 4, 2) := by decide +kernel
theorem dX12_seesAlike_58 : decode cX12_seesAlike 58 = .ok (.iaload, 1) := by decide +kernel
theorem dX12_seesAlike_59 : decode cX12_seesAlike 59 = .ok (.iload_n 1, 1) := by decide +kernel
theorem dX12_seesAlike_60 : decode cX12_seesAlike 60 = .ok (.if_icmp .eq 14, 3) := by decide +kernel
theorem dX12_seesAlike_63 : decode cX12_seesAlike 63 = .ok (.aload_n 0, 1) := by decide +kernel
theorem dX12_seesAlike_64 : decode cX12_seesAlike 64 = .ok (.getfield 63, 3) := by decide +kernel
theorem dX12_seesAlike_67 : decode cX12_seesAlike 67 = .ok (.iload 4, 2) := by decide +kernel
theorem dX12_seesAlike_69 : decode cX12_seesAlike 69 = .ok (.iaload, 1) := by decide +kernel
theorem dX12_seesAlike_70 : decode cX12_seesAlike 70 = .ok (.iload_n 1, 1) := by decide +kernel
theorem dX12_seesAlike_71 : decode cX12_seesAlike 71 = .ok (.if_icmp .ne 7, 3) := by decide +kernel
theorem dX12_seesAlike_74 : decode cX12_seesAlike 74 = .ok (.iconst 1, 1) := by decide +kernel
theorem dX12_seesAlike_75 : decode cX12_seesAlike 75 = .ok (.goto 4, 3) := by decide +kernel
theorem dX12_seesAlike_78 : decode cX12_seesAlike 78 = .ok (.iconst 0, 1) := by decide +kernel
theorem dX12_seesAlike_79 : decode cX12_seesAlike 79 = .ok (.istore 6, 2) := by decide +kernel
theorem dX12_seesAlike_81 : decode cX12_seesAlike 81 = .ok (.iload_n 2, 1) := by decide +kernel
theorem dX12_seesAlike_82 : decode cX12_seesAlike 82 = .ok (.aload_n 0, 1) := by decide +kernel
theorem dX12_seesAlike_83 : decode cX12_seesAlike 83 = .ok (.getfield 25, 3) := by decide +kernel
theorem dX12_seesAlike_86 : decode cX12_seesAlike 86 = .ok (.iload 4, 2) := by decide +kernel
theorem dX12_seesAlike_88 : decode cX12_seesAlike 88 = .ok (.iaload, 1) := by decide +kernel
theorem dX12_seesAlike_89 : decode cX12_seesAlike 89 = .ok (.aload_n 0, 1) := by decide +kernel
theorem dX12_seesAlike_90 : decode cX12_seesAlike 90 = .ok (.getfield 28, 3) := by decide +kernel
theorem dX12_seesAlike_93 : decode cX12_seesAlike 93 = .ok (.iload 4, 2) := by decide +kernel
theorem dX12_seesAlike_95 : decode cX12_seesAlike 95 = .ok (.iaload, 1) := by decide +kernel
theorem dX12_seesAlike_96 : decode cX12_seesAlike 96 = .ok (.invokestatic 117, 3) := by decide +kernel
theorem dX12_seesAlike_99 : decode cX12_seesAlike 99 = .ok (.istore_n 2, 1) := by decide +kernel
theorem dX12_seesAlike_100 : decode cX12_seesAlike 100 = .ok (.iload_n 3, 1) := by decide +kernel
theorem dX12_seesAlike_101 : decode cX12_seesAlike 101 = .ok (.aload_n 0, 1) := by decide +kernel
theorem dX12_seesAlike_102 : decode cX12_seesAlike 102 = .ok (.getfield 60, 3) := by decide +kernel
theorem dX12_seesAlike_105 : decode cX12_seesAlike 105 = .ok (.iload 4, 2) := by decide +kernel
theorem dX12_seesAlike_107 : decode cX12_seesAlike 107 = .ok (.iaload, 1) := by decide +kernel
theorem dX12_seesAlike_108 : decode cX12_seesAlike 108 = .ok (.aload_n 0, 1) := by decide +kernel
theorem dX12_seesAlike_109 : decode cX12_seesAlike 109 = .ok (.getfield 63, 3) := by decide +kernel
theorem dX12_seesAlike_112 : decode cX12_seesAlike 112 = .ok (.iload 4, 2) := by decide +kernel
theorem dX12_seesAlike_114 : decode cX12_seesAlike 114 = .ok (.iaload, 1) := by decide +kernel
theorem dX12_seesAlike_115 : decode cX12_seesAlike 115 = .ok (.invokestatic 117, 3) := by decide +kernel
theorem dX12_seesAlike_118 : decode cX12_seesAlike 118 = .ok (.istore_n 3, 1) := by decide +kernel
theorem dX12_seesAlike_119 : decode cX12_seesAlike 119 = .ok (.iload 5, 2) := by decide +kernel
theorem dX12_seesAlike_121 : decode cX12_seesAlike 121 = .ok (.iload 6, 2) := by decide +kernel
theorem dX12_seesAlike_123 : decode cX12_seesAlike 123 = .ok (.if_icmp .ne 55, 3) := by decide +kernel
theorem dX12_seesAlike_126 : decode cX12_seesAlike 126 = .ok (.iload 5, 2) := by decide +kernel
theorem dX12_seesAlike_128 : decode cX12_seesAlike 128 = .ok (.ifCond .eq 52, 3) := by decide +kernel
theorem dX12_seesAlike_131 : decode cX12_seesAlike 131 = .ok (.aload_n 0, 1) := by decide +kernel
theorem dX12_seesAlike_132 : decode cX12_seesAlike 132 = .ok (.getfield 25, 3) := by decide +kernel
theorem dX12_seesAlike_135 : decode cX12_seesAlike 135 = .ok (.iload 4, 2) := by decide +kernel
theorem dX12_seesAlike_137 : decode cX12_seesAlike 137 = .ok (.iaload, 1) := by decide +kernel
theorem dX12_seesAlike_138 : decode cX12_seesAlike 138 = .ok (.aload_n 0, 1) := by decide +kernel
theorem dX12_seesAlike_139 : decode cX12_seesAlike 139 = .ok (.getfield 60, 3) := by decide +kernel
theorem dX12_seesAlike_142 : decode cX12_seesAlike 142 = .ok (.iload 4, 2) := by decide +kernel
theorem dX12_seesAlike_144 : decode cX12_seesAlike 144 = .ok (.iaload, 1) := by decide +kernel
theorem dX12_seesAlike_145 : decode cX12_seesAlike 145 = .ok (.if_icmp .ne 33, 3) := by decide +kernel
theorem dX12_seesAlike_148 : decode cX12_seesAlike 148 = .ok (.aload_n 0, 1) := by decide +kernel
theorem dX12_seesAlike_149 : decode cX12_seesAlike 149 = .ok (.getfield 28, 3) := by decide +kernel
theorem dX12_seesAlike_152 : decode cX12_seesAlike 152 = .ok (.iload 4, 2) := by decide +kernel
theorem dX12_seesAlike_154 : decode cX12_seesAlike 154 = .ok (.iaload, 1) := by decide +kernel
theorem dX12_seesAlike_155 : decode cX12_seesAlike 155 = .ok (.aload_n 0, 1) := by decide +kernel
theorem dX12_seesAlike_156 : decode cX12_seesAlike 156 = .ok (.getfield 63, 3) := by decide +kernel
theorem dX12_seesAlike_159 : decode cX12_seesAlike 159 = .ok (.iload 4, 2) := by decide +kernel
theorem dX12_seesAlike_161 : decode cX12_seesAlike 161 = .ok (.iaload, 1) := by decide +kernel
theorem dX12_seesAlike_162 : decode cX12_seesAlike 162 = .ok (.if_icmp .ne 16, 3) := by decide +kernel
theorem dX12_seesAlike_165 : decode cX12_seesAlike 165 = .ok (.iload_n 2, 1) := by decide +kernel
theorem dX12_seesAlike_166 : decode cX12_seesAlike 166 = .ok (.iload_n 1, 1) := by decide +kernel
theorem dX12_seesAlike_167 : decode cX12_seesAlike 167 = .ok (.invokestatic 110, 3) := by decide +kernel
theorem dX12_seesAlike_170 : decode cX12_seesAlike 170 = .ok (.iload_n 3, 1) := by decide +kernel
theorem dX12_seesAlike_171 : decode cX12_seesAlike 171 = .ok (.iload_n 1, 1) := by decide +kernel
theorem dX12_seesAlike_172 : decode cX12_seesAlike 172 = .ok (.invokestatic 110, 3) := by decide +kernel
theorem dX12_seesAlike_175 : decode cX12_seesAlike 175 = .ok (.if_icmp .eq 5, 3) := by decide +kernel
theorem dX12_seesAlike_178 : decode cX12_seesAlike 178 = .ok (.iconst 0, 1) := by decide +kernel
theorem dX12_seesAlike_179 : decode cX12_seesAlike 179 = .ok (.ireturn, 1) := by decide +kernel
theorem dX12_seesAlike_180 : decode cX12_seesAlike 180 = .ok (.iinc 4 1, 3) := by decide +kernel
theorem dX12_seesAlike_183 : decode cX12_seesAlike 183 = .ok (.goto (-169), 3) := by decide +kernel
theorem dX12_seesAlike_186 : decode cX12_seesAlike 186 = .ok (.iconst 1, 1) := by decide +kernel
theorem dX12_seesAlike_187 : decode cX12_seesAlike 187 = .ok (.ireturn, 1) := by decide +kernel
theorem dX12_layAlike_0 : decode cX12_layAlike 0 = .ok (.aload_n 0, 1) := by decide +kernel
theorem dX12_layAlike_1 : decode cX12_layAlike 1 = .ok (.iconst 0, 1) := by decide +kernel
theorem dX12_layAlike_2 : decode cX12_layAlike 2 = .ok (.putfield 197, 3) := by decide +kernel
theorem dX12_layAlike_5 : decode cX12_layAlike 5 = .ok (.aload_n 0, 1) := by decide +kernel
theorem dX12_layAlike_6 : decode cX12_layAlike 6 = .ok (.ldc 157, 2) := by decide +kernel
theorem dX12_layAlike_8 : decode cX12_layAlike 8 = .ok (.putfield 200, 3) := by decide +kernel
theorem dX12_layAlike_11 : decode cX12_layAlike 11 = .ok (.iconst 1, 1) := by decide +kernel
theorem dX12_layAlike_12 : decode cX12_layAlike 12 = .ok (.iconst 4, 1) := by decide +kernel
theorem dX12_layAlike_13 : decode cX12_layAlike 13 = .ok (.aload_n 0, 1) := by decide +kernel
theorem dX12_layAlike_14 : decode cX12_layAlike 14 = .ok (.getfield 103, 3) := by decide +kernel
theorem dX12_layAlike_17 : decode cX12_layAlike 17 = .ok (.imul, 1) := by decide +kernel
theorem dX12_layAlike_18 : decode cX12_layAlike 18 = .ok (.ishl, 1) := by decide +kernel
theorem dX12_layAlike_19 : decode cX12_layAlike 19 = .ok (.istore_n 2, 1) := by decide +kernel
theorem dX12_layAlike_20 : decode cX12_layAlike 20 = .ok (.iconst 0, 1) := by decide +kernel
theorem dX12_layAlike_21 : decode cX12_layAlike 21 = .ok (.istore_n 3, 1) := by decide +kernel
theorem dX12_layAlike_22 : decode cX12_layAlike 22 = .ok (.iload_n 3, 1) := by decide +kernel
theorem dX12_layAlike_23 : decode cX12_layAlike 23 = .ok (.iload_n 2, 1) := by decide +kernel
theorem dX12_layAlike_24 : decode cX12_layAlike 24 = .ok (.if_icmp .ge 50, 3) := by decide +kernel
theorem dX12_layAlike_27 : decode cX12_layAlike 27 = .ok (.aload_n 0, 1) := by decide +kernel
theorem dX12_layAlike_28 : decode cX12_layAlike 28 = .ok (.iload_n 3, 1) := by decide +kernel
theorem dX12_layAlike_29 : decode cX12_layAlike 29 = .ok (.invokevirtual 203, 3) := by decide +kernel
theorem dX12_layAlike_32 : decode cX12_layAlike 32 = .ok (.istore 4, 2) := by decide +kernel
theorem dX12_layAlike_34 : decode cX12_layAlike 34 = .ok (.iload 4, 2) := by decide +kernel
theorem dX12_layAlike_36 : decode cX12_layAlike 36 = .ok (.ifCond .lt 32, 3) := by decide +kernel
theorem dX12_layAlike_39 : decode cX12_layAlike 39 = .ok (.aload_n 0, 1) := by decide +kernel
theorem dX12_layAlike_40 : decode cX12_layAlike 40 = .ok (.iload_n 1, 1) := by decide +kernel
theorem dX12_layAlike_41 : decode cX12_layAlike 41 = .ok (.invokevirtual 206, 3) := by decide +kernel
theorem dX12_layAlike_44 : decode cX12_layAlike 44 = .ok (.ifCond .eq 24, 3) := by decide +kernel
theorem dX12_layAlike_47 : decode cX12_layAlike 47 = .ok (.aload_n 0, 1) := by decide +kernel
theorem dX12_layAlike_48 : decode cX12_layAlike 48 = .ok (.dup, 1) := by decide +kernel
theorem dX12_layAlike_49 : decode cX12_layAlike 49 = .ok (.getfield 197, 3) := by decide +kernel
theorem dX12_layAlike_52 : decode cX12_layAlike 52 = .ok (.iconst 1, 1) := by decide +kernel
theorem dX12_layAlike_53 : decode cX12_layAlike 53 = .ok (.iadd, 1) := by decide +kernel
theorem dX12_layAlike_54 : decode cX12_layAlike 54 = .ok (.putfield 197, 3) := by decide +kernel
theorem dX12_layAlike_57 : decode cX12_layAlike 57 = .ok (.aload_n 0, 1) := by decide +kernel
theorem dX12_layAlike_58 : decode cX12_layAlike 58 = .ok (.dup, 1) := by decide +kernel
theorem dX12_layAlike_59 : decode cX12_layAlike 59 = .ok (.getfield 200, 3) := by decide +kernel
theorem dX12_layAlike_62 : decode cX12_layAlike 62 = .ok (.iload 4, 2) := by decide +kernel
theorem dX12_layAlike_64 : decode cX12_layAlike 64 = .ok (.iand, 1) := by decide +kernel
theorem dX12_layAlike_65 : decode cX12_layAlike 65 = .ok (.putfield 200, 3) := by decide +kernel
theorem dX12_layAlike_68 : decode cX12_layAlike 68 = .ok (.iinc 3 1, 3) := by decide +kernel
theorem dX12_layAlike_71 : decode cX12_layAlike 71 = .ok (.goto (-49), 3) := by decide +kernel
theorem dX12_layAlike_74 : decode cX12_layAlike 74 = .ok (.return_, 1) := by decide +kernel
theorem dX12_alike_0 : decode cX12_alike 0 = .ok (.aload_n 0, 1) := by decide +kernel
theorem dX12_alike_1 : decode cX12_alike 1 = .ok (.iload_n 1, 1) := by decide +kernel
theorem dX12_alike_2 : decode cX12_alike 2 = .ok (.invokevirtual 125, 3) := by decide +kernel
theorem dX12_alike_5 : decode cX12_alike 5 = .ok (.ifCond .ne 5, 3) := by decide +kernel
theorem dX12_alike_8 : decode cX12_alike 8 = .ok (.iconst (-1), 1) := by decide +kernel
theorem dX12_alike_9 : decode cX12_alike 9 = .ok (.ireturn, 1) := by decide +kernel
theorem dX12_alike_10 : decode cX12_alike 10 = .ok (.aload_n 0, 1) := by decide +kernel
theorem dX12_alike_11 : decode cX12_alike 11 = .ok (.getfield 103, 3) := by decide +kernel
theorem dX12_alike_14 : decode cX12_alike 14 = .ok (.iconst 4, 1) := by decide +kernel
theorem dX12_alike_15 : decode cX12_alike 15 = .ok (.if_icmp .le 6, 3) := by decide +kernel
theorem dX12_alike_18 : decode cX12_alike 18 = .ok (.bipush (-3), 2) := by decide +kernel
theorem dX12_alike_20 : decode cX12_alike 20 = .ok (.ireturn, 1) := by decide +kernel
theorem dX12_alike_21 : decode cX12_alike 21 = .ok (.aload_n 0, 1) := by decide +kernel
theorem dX12_alike_22 : decode cX12_alike 22 = .ok (.iload_n 1, 1) := by decide +kernel
theorem dX12_alike_23 : decode cX12_alike 23 = .ok (.invokevirtual 209, 3) := by decide +kernel
theorem dX12_alike_26 : decode cX12_alike 26 = .ok (.aload_n 0, 1) := by decide +kernel
theorem dX12_alike_27 : decode cX12_alike 27 = .ok (.getfield 197, 3) := by decide +kernel
theorem dX12_alike_30 : decode cX12_alike 30 = .ok (.ireturn, 1) := by decide +kernel
theorem dX12_sure_0 : decode cX12_sure 0 = .ok (.aload_n 0, 1) := by decide +kernel
theorem dX12_sure_1 : decode cX12_sure 1 = .ok (.iload_n 1, 1) := by decide +kernel
theorem dX12_sure_2 : decode cX12_sure 2 = .ok (.invokevirtual 125, 3) := by decide +kernel
theorem dX12_sure_5 : decode cX12_sure 5 = .ok (.ifCond .eq 19, 3) := by decide +kernel
theorem dX12_sure_8 : decode cX12_sure 8 = .ok (.aload_n 0, 1) := by decide +kernel
theorem dX12_sure_9 : decode cX12_sure 9 = .ok (.iload_n 2, 1) := by decide +kernel
theorem dX12_sure_10 : decode cX12_sure 10 = .ok (.invokevirtual 125, 3) := by decide +kernel
theorem dX12_sure_13 : decode cX12_sure 13 = .ok (.ifCond .eq 11, 3) := by decide +kernel
theorem dX12_sure_16 : decode cX12_sure 16 = .ok (.aload_n 0, 1) := by decide +kernel
theorem dX12_sure_17 : decode cX12_sure 17 = .ok (.iload_n 3, 1) := by decide +kernel
theorem dX12_sure_18 : decode cX12_sure 18 = .ok (.invokevirtual 125, 3) := by decide +kernel
theorem dX12_sure_21 : decode cX12_sure 21 = .ok (.ifCond .ne 5, 3) := by decide +kernel
theorem dX12_sure_24 : decode cX12_sure 24 = .ok (.iconst (-1), 1) := by decide +kernel
theorem dX12_sure_25 : decode cX12_sure 25 = .ok (.ireturn, 1) := by decide +kernel
theorem dX12_sure_26 : decode cX12_sure 26 = .ok (.aload_n 0, 1) := by decide +kernel
theorem dX12_sure_27 : decode cX12_sure 27 = .ok (.getfield 103, 3) := by decide +kernel
theorem dX12_sure_30 : decode cX12_sure 30 = .ok (.iconst 4, 1) := by decide +kernel
theorem dX12_sure_31 : decode cX12_sure 31 = .ok (.if_icmp .le 6, 3) := by decide +kernel
theorem dX12_sure_34 : decode cX12_sure 34 = .ok (.bipush (-3), 2) := by decide +kernel
theorem dX12_sure_36 : decode cX12_sure 36 = .ok (.ireturn, 1) := by decide +kernel
theorem dX12_sure_37 : decode cX12_sure 37 = .ok (.aload_n 0, 1) := by decide +kernel
theorem dX12_sure_38 : decode cX12_sure 38 = .ok (.iload_n 1, 1) := by decide +kernel
theorem dX12_sure_39 : decode cX12_sure 39 = .ok (.invokevirtual 209, 3) := by decide +kernel
theorem dX12_sure_42 : decode cX12_sure 42 = .ok (.aload_n 0, 1) := by decide +kernel
theorem dX12_sure_43 : decode cX12_sure 43 = .ok (.getfield 200, 3) := by decide +kernel
theorem dX12_sure_46 : decode cX12_sure 46 = .ok (.iload_n 2, 1) := by decide +kernel
theorem dX12_sure_47 : decode cX12_sure 47 = .ok (.invokestatic 110, 3) := by decide +kernel
theorem dX12_sure_50 : decode cX12_sure 50 = .ok (.iload_n 3, 1) := by decide +kernel
theorem dX12_sure_51 : decode cX12_sure 51 = .ok (.ishr, 1) := by decide +kernel
theorem dX12_sure_52 : decode cX12_sure 52 = .ok (.iconst 1, 1) := by decide +kernel
theorem dX12_sure_53 : decode cX12_sure 53 = .ok (.iand, 1) := by decide +kernel
theorem dX12_sure_54 : decode cX12_sure 54 = .ok (.ireturn, 1) := by decide +kernel
theorem dX12_known_0 : decode cX12_known 0 = .ok (.aload_n 0, 1) := by decide +kernel
theorem dX12_known_1 : decode cX12_known 1 = .ok (.iload_n 1, 1) := by decide +kernel
theorem dX12_known_2 : decode cX12_known 2 = .ok (.invokevirtual 125, 3) := by decide +kernel
theorem dX12_known_5 : decode cX12_known 5 = .ok (.ifCond .eq 11, 3) := by decide +kernel
theorem dX12_known_8 : decode cX12_known 8 = .ok (.aload_n 0, 1) := by decide +kernel
theorem dX12_known_9 : decode cX12_known 9 = .ok (.iload_n 2, 1) := by decide +kernel
theorem dX12_known_10 : decode cX12_known 10 = .ok (.invokevirtual 125, 3) := by decide +kernel
theorem dX12_known_13 : decode cX12_known 13 = .ok (.ifCond .ne 5, 3) := by decide +kernel
theorem dX12_known_16 : decode cX12_known 16 = .ok (.iconst (-1), 1) := by decide +kernel
theorem dX12_known_17 : decode cX12_known 17 = .ok (.ireturn, 1) := by decide +kernel
theorem dX12_known_18 : decode cX12_known 18 = .ok (.aload_n 0, 1) := by decide +kernel
theorem dX12_known_19 : decode cX12_known 19 = .ok (.getfield 103, 3) := by decide +kernel
theorem dX12_known_22 : decode cX12_known 22 = .ok (.iconst 4, 1) := by decide +kernel
theorem dX12_known_23 : decode cX12_known 23 = .ok (.if_icmp .le 6, 3) := by decide +kernel
theorem dX12_known_26 : decode cX12_known 26 = .ok (.bipush (-3), 2) := by decide +kernel
theorem dX12_known_28 : decode cX12_known 28 = .ok (.ireturn, 1) := by decide +kernel
theorem dX12_known_29 : decode cX12_known 29 = .ok (.aload_n 0, 1) := by decide +kernel
theorem dX12_known_30 : decode cX12_known 30 = .ok (.iload_n 1, 1) := by decide +kernel
theorem dX12_known_31 : decode cX12_known 31 = .ok (.invokevirtual 209, 3) := by decide +kernel
theorem dX12_known_34 : decode cX12_known 34 = .ok (.aload_n 0, 1) := by decide +kernel
theorem dX12_known_35 : decode cX12_known 35 = .ok (.getfield 200, 3) := by decide +kernel
theorem dX12_known_38 : decode cX12_known 38 = .ok (.iload_n 2, 1) := by decide +kernel
theorem dX12_known_39 : decode cX12_known 39 = .ok (.invokestatic 110, 3) := by decide +kernel
theorem dX12_known_42 : decode cX12_known 42 = .ok (.ireturn, 1) := by decide +kernel
theorem dX12_end_0 : decode cX12_end 0 = .ok (.aload_n 0, 1) := by decide +kernel
theorem dX12_end_1 : decode cX12_end 1 = .ok (.iload_n 1, 1) := by decide +kernel
theorem dX12_end_2 : decode cX12_end 2 = .ok (.invokevirtual 125, 3) := by decide +kernel
theorem dX12_end_5 : decode cX12_end 5 = .ok (.ifCond .ne 5, 3) := by decide +kernel
theorem dX12_end_8 : decode cX12_end 8 = .ok (.iconst (-1), 1) := by decide +kernel
theorem dX12_end_9 : decode cX12_end 9 = .ok (.ireturn, 1) := by decide +kernel
theorem dX12_end_10 : decode cX12_end 10 = .ok (.aload_n 0, 1) := by decide +kernel
theorem dX12_end_11 : decode cX12_end 11 = .ok (.getfield 103, 3) := by decide +kernel
theorem dX12_end_14 : decode cX12_end 14 = .ok (.iconst 4, 1) := by decide +kernel
theorem dX12_end_15 : decode cX12_end 15 = .ok (.if_icmp .le 6, 3) := by decide +kernel
theorem dX12_end_18 : decode cX12_end 18 = .ok (.bipush (-3), 2) := by decide +kernel
theorem dX12_end_20 : decode cX12_end 20 = .ok (.ireturn, 1) := by decide +kernel
theorem dX12_end_21 : decode cX12_end 21 = .ok (.aload_n 0, 1) := by decide +kernel
theorem dX12_end_22 : decode cX12_end 22 = .ok (.iload_n 1, 1) := by decide +kernel
theorem dX12_end_23 : decode cX12_end 23 = .ok (.invokevirtual 209, 3) := by decide +kernel
theorem dX12_end_26 : decode cX12_end 26 = .ok (.aload_n 0, 1) := by decide +kernel
theorem dX12_end_27 : decode cX12_end 27 = .ok (.aload_n 0, 1) := by decide +kernel
theorem dX12_end_28 : decode cX12_end 28 = .ok (.getfield 200, 3) := by decide +kernel
theorem dX12_end_31 : decode cX12_end 31 = .ok (.aload_n 0, 1) := by decide +kernel
theorem dX12_end_32 : decode cX12_end 32 = .ok (.getfield 82, 3) := by decide +kernel
theorem dX12_end_35 : decode cX12_end 35 = .ok (.invokevirtual 167, 3) := by decide +kernel
theorem dX12_end_38 : decode cX12_end 38 = .ok (.ifCond .eq 7, 3) := by decide +kernel
theorem dX12_end_41 : decode cX12_end 41 = .ok (.iconst 1, 1) := by decide +kernel
theorem dX12_end_42 : decode cX12_end 42 = .ok (.goto 4, 3) := by decide +kernel
theorem dX12_end_45 : decode cX12_end 45 = .ok (.iconst 0, 1) := by decide +kernel
theorem dX12_end_46 : decode cX12_end 46 = .ok (.ireturn, 1) := by decide +kernel
theorem dX12_isJoined_0 : decode cX12_isJoined 0 = .ok (.iconst 1, 1) := by decide +kernel
theorem dX12_isJoined_1 : decode cX12_isJoined 1 = .ok (.istore_n 2, 1) := by decide +kernel
theorem dX12_isJoined_2 : decode cX12_isJoined 2 = .ok (.iconst 0, 1) := by decide +kernel
theorem dX12_isJoined_3 : decode cX12_isJoined 3 = .ok (.istore_n 3, 1) := by decide +kernel
theorem dX12_isJoined_4 : decode cX12_isJoined 4 = .ok (.iload_n 3, 1) := by decide +kernel
theorem dX12_isJoined_5 : decode cX12_isJoined 5 = .ok (.iload_n 1, 1) := by decide +kernel
theorem dX12_isJoined_6 : decode cX12_isJoined 6 = .ok (.if_icmp .ge 88, 3) := by decide +kernel
theorem dX12_isJoined_9 : decode cX12_isJoined 9 = .ok (.iconst 0, 1) := by decide +kernel
theorem dX12_isJoined_10 : decode cX12_isJoined 10 = .ok (.istore 4, 2) := by decide +kernel
theorem dX12_isJoined_12 : decode cX12_isJoined 12 = .ok (.iload 4, 2) := by decide +kernel
theorem dX12_isJoined_14 : decode cX12_isJoined 14 = .ok (.iload_n 1, 1) := by decide +kernel
theorem dX12_isJoined_15 : decode cX12_isJoined 15 = .ok (.if_icmp .ge 73, 3) := by decide +kernel
theorem dX12_isJoined_18 : decode cX12_isJoined 18 = .ok (.iconst 0, 1) := by decide +kernel
theorem dX12_isJoined_19 : decode cX12_isJoined 19 = .ok (.istore 5, 2) := by decide +kernel
theorem dX12_isJoined_21 : decode cX12_isJoined 21 = .ok (.iload 5, 2) := by decide +kernel
theorem dX12_isJoined_23 : decode cX12_isJoined 23 = .ok (.iload_n 1, 1) := by decide +kernel
theorem dX12_isJoined_24 : decode cX12_isJoined 24 = .ok (.if_icmp .ge 58, 3) := by decide +kernel
theorem dX12_isJoined_27 : decode cX12_isJoined 27 = .ok (.iload 4, 2) := by decide +kernel
theorem dX12_isJoined_29 : decode cX12_isJoined 29 = .ok (.iload 5, 2) := by decide +kernel
theorem dX12_isJoined_31 : decode cX12_isJoined 31 = .ok (.if_icmp .eq 45, 3) := by decide +kernel
theorem dX12_isJoined_34 : decode cX12_isJoined 34 = .ok (.aload_n 0, 1) := by decide +kernel
theorem dX12_isJoined_35 : decode cX12_isJoined 35 = .ok (.iload 4, 2) := by decide +kernel
theorem dX12_isJoined_37 : decode cX12_isJoined 37 = .ok (.iaload, 1) := by decide +kernel
theorem dX12_isJoined_38 : decode cX12_isJoined 38 = .ok (.iload 5, 2) := by decide +kernel
theorem dX12_isJoined_40 : decode cX12_isJoined 40 = .ok (.invokestatic 106, 3) := by decide +kernel
theorem dX12_isJoined_43 : decode cX12_isJoined 43 = .ok (.ifCond .eq 33, 3) := by decide +kernel
theorem dX12_isJoined_46 : decode cX12_isJoined 46 = .ok (.iload_n 2, 1) := by decide +kernel
theorem dX12_isJoined_47 : decode cX12_isJoined 47 = .ok (.iload 4, 2) := by decide +kernel
theorem dX12_isJoined_49 : decode cX12_isJoined 49 = .ok (.invokestatic 106, 3) := by decide +kernel
theorem dX12_isJoined_52 : decode cX12_isJoined 52 = .ok (.ifCond .ne 12, 3) := by decide +kernel
theorem dX12_isJoined_55 : decode cX12_isJoined 55 = .ok (.iload_n 2, 1) := by decide +kernel
theorem dX12_isJoined_56 : decode cX12_isJoined 56 = .ok (.iload 5, 2) := by decide +kernel
theorem dX12_isJoined_58 : decode cX12_isJoined 58 = .ok (.invokestatic 106, 3) := by decide +kernel
theorem dX12_isJoined_61 : decode cX12_isJoined 61 = .ok (.ifCond .eq 15, 3) := by decide +kernel
theorem dX12_isJoined_64 : decode cX12_isJoined 64 = .ok (.iload_n 2, 1) := by decide +kernel
theorem dX12_isJoined_65 : decode cX12_isJoined 65 = .ok (.iconst 1, 1) := by decide +kernel
theorem dX12_isJoined_66 : decode cX12_isJoined 66 = .ok (.iload 4, 2) := by decide +kernel
theorem dX12_isJoined_68 : decode cX12_isJoined 68 = .ok (.ishl, 1) := by decide +kernel
theorem dX12_isJoined_69 : decode cX12_isJoined 69 = .ok (.iconst 1, 1) := by decide +kernel
theorem dX12_isJoined_70 : decode cX12_isJoined 70 = .ok (.iload 5, 2) := by decide +kernel
theorem dX12_isJoined_72 : decode cX12_isJoined 72 = .ok (.ishl, 1) := by decide +kernel
theorem dX12_isJoined_73 : decode cX12_isJoined 73 = .ok (.ior, 1) := by decide +kernel
theorem dX12_isJoined_74 : decode cX12_isJoined 74 = .ok (.ior, 1) := by decide +kernel
theorem dX12_isJoined_75 : decode cX12_isJoined 75 = .ok (.istore_n 2, 1) := by decide +kernel
theorem dX12_isJoined_76 : decode cX12_isJoined 76 = .ok (.iinc 5 1, 3) := by decide +kernel
theorem dX12_isJoined_79 : decode cX12_isJoined 79 = .ok (.goto (-58), 3) := by decide +kernel
theorem dX12_isJoined_82 : decode cX12_isJoined 82 = .ok (.iinc 4 1, 3) := by decide +kernel
theorem dX12_isJoined_85 : decode cX12_isJoined 85 = .ok (.goto (-73), 3) := by decide +kernel
theorem dX12_isJoined_88 : decode cX12_isJoined 88 = .ok (.iinc 3 1, 3) := by decide +kernel
theorem dX12_isJoined_91 : decode cX12_isJoined 91 = .ok (.goto (-87), 3) := by decide +kernel
theorem dX12_isJoined_94 : decode cX12_isJoined 94 = .ok (.iload_n 1, 1) := by decide +kernel
theorem dX12_isJoined_95 : decode cX12_isJoined 95 = .ok (.ifCond .le 16, 3) := by decide +kernel
theorem dX12_isJoined_98 : decode cX12_isJoined 98 = .ok (.iload_n 2, 1) := by decide +kernel
theorem dX12_isJoined_99 : decode cX12_isJoined 99 = .ok (.iconst 1, 1) := by decide +kernel
theorem dX12_isJoined_100 : decode cX12_isJoined 100 = .ok (.iload_n 1, 1) := by decide +kernel
theorem dX12_isJoined_101 : decode cX12_isJoined 101 = .ok (.ishl, 1) := by decide +kernel
theorem dX12_isJoined_102 : decode cX12_isJoined 102 = .ok (.iconst 1, 1) := by decide +kernel
theorem dX12_isJoined_103 : decode cX12_isJoined 103 = .ok (.isub, 1) := by decide +kernel
theorem dX12_isJoined_104 : decode cX12_isJoined 104 = .ok (.if_icmp .ne 7, 3) := by decide +kernel
theorem dX12_isJoined_107 : decode cX12_isJoined 107 = .ok (.iconst 1, 1) := by decide +kernel
theorem dX12_isJoined_108 : decode cX12_isJoined 108 = .ok (.goto 4, 3) := by decide +kernel
theorem dX12_isJoined_111 : decode cX12_isJoined 111 = .ok (.iconst 0, 1) := by decide +kernel
theorem dX12_isJoined_112 : decode cX12_isJoined 112 = .ok (.ireturn, 1) := by decide +kernel
theorem dX12_joined_0 : decode cX12_joined 0 = .ok (.aload_n 0, 1) := by decide +kernel
theorem dX12_joined_1 : decode cX12_joined 1 = .ok (.getfield 82, 3) := by decide +kernel
theorem dX12_joined_4 : decode cX12_joined 4 = .ok (.ifCond .ne 8, 3) := by decide +kernel
theorem dX12_joined_7 : decode cX12_joined 7 = .ok (.bipush (-3), 2) := by decide +kernel
theorem dX12_joined_9 : decode cX12_joined 9 = .ok (.goto 22, 3) := by decide +kernel
theorem dX12_joined_12 : decode cX12_joined 12 = .ok (.aload_n 0, 1) := by decide +kernel
theorem dX12_joined_13 : decode cX12_joined 13 = .ok (.getfield 19, 3) := by decide +kernel
theorem dX12_joined_16 : decode cX12_joined 16 = .ok (.aload_n 0, 1) := by decide +kernel
theorem dX12_joined_17 : decode cX12_joined 17 = .ok (.getfield 82, 3) := by decide +kernel
theorem dX12_joined_20 : decode cX12_joined 20 = .ok (.invokestatic 213, 3) := by decide +kernel
theorem dX12_joined_23 : decode cX12_joined 23 = .ok (.ifCond .eq 7, 3) := by decide +kernel
theorem dX12_joined_26 : decode cX12_joined 26 = .ok (.iconst 1, 1) := by decide +kernel
theorem dX12_joined_27 : decode cX12_joined 27 = .ok (.goto 4, 3) := by decide +kernel
theorem dX12_joined_30 : decode cX12_joined 30 = .ok (.iconst 0, 1) := by decide +kernel
theorem dX12_joined_31 : decode cX12_joined 31 = .ok (.ireturn, 1) := by decide +kernel
theorem dX12_layOther_0 : decode cX12_layOther 0 = .ok (.iconst 0, 1) := by decide +kernel
theorem dX12_layOther_1 : decode cX12_layOther 1 = .ok (.istore_n 3, 1) := by decide +kernel
theorem dX12_layOther_2 : decode cX12_layOther 2 = .ok (.iload_n 3, 1) := by decide +kernel
theorem dX12_layOther_3 : decode cX12_layOther 3 = .ok (.iconst 4, 1) := by decide +kernel
theorem dX12_layOther_4 : decode cX12_layOther 4 = .ok (.if_icmp .ge 21, 3) := by decide +kernel
theorem dX12_layOther_7 : decode cX12_layOther 7 = .ok (.aload_n 0, 1) := by decide +kernel
theorem dX12_layOther_8 : decode cX12_layOther 8 = .ok (.getfield 66, 3) := by decide +kernel
theorem dX12_layOther_11 : decode cX12_layOther 11 = .ok (.iload_n 3, 1) := by decide +kernel
theorem dX12_layOther_12 : decode cX12_layOther 12 = .ok (.aload_n 0, 1) := by decide +kernel
theorem dX12_layOther_13 : decode cX12_layOther 13 = .ok (.getfield 19, 3) := by decide +kernel
theorem dX12_layOther_16 : decode cX12_layOther 16 = .ok (.iload_n 3, 1) := by decide +kernel
theorem dX12_layOther_17 : decode cX12_layOther 17 = .ok (.iaload, 1) := by decide +kernel
theorem dX12_layOther_18 : decode cX12_layOther 18 = .ok (.iastore, 1) := by decide +kernel
theorem dX12_layOther_19 : decode cX12_layOther 19 = .ok (.iinc 3 1, 3) := by decide +kernel
theorem dX12_layOther_22 : decode cX12_layOther 22 = .ok (.goto (-20), 3) := by decide +kernel
theorem dX12_layOther_25 : decode cX12_layOther 25 = .ok (.aload_n 0, 1) := by decide +kernel
theorem dX12_layOther_26 : decode cX12_layOther 26 = .ok (.getfield 66, 3) := by decide +kernel
theorem dX12_layOther_29 : decode cX12_layOther 29 = .ok (.iload_n 1, 1) := by decide +kernel
theorem dX12_layOther_30 : decode cX12_layOther 30 = .ok (.dup2, 1) := by decide +kernel
theorem dX12_layOther_31 : decode cX12_layOther 31 = .ok (.iaload, 1) := by decide +kernel
theorem dX12_layOther_32 : decode cX12_layOther 32 = .ok (.iconst 1, 1) := by decide +kernel
theorem dX12_layOther_33 : decode cX12_layOther 33 = .ok (.iload_n 2, 1) := by decide +kernel
theorem dX12_layOther_34 : decode cX12_layOther 34 = .ok (.ishl, 1) := by decide +kernel
theorem dX12_layOther_35 : decode cX12_layOther 35 = .ok (.ixor, 1) := by decide +kernel
theorem dX12_layOther_36 : decode cX12_layOther 36 = .ok (.iastore, 1) := by decide +kernel
theorem dX12_layOther_37 : decode cX12_layOther 37 = .ok (.return_, 1) := by decide +kernel
theorem dX12_bridge_0 : decode cX12_bridge 0 = .ok (.iload_n 1, 1) := by decide +kernel
theorem dX12_bridge_1 : decode cX12_bridge 1 = .ok (.iconst (-1), 1) := by decide +kernel
theorem dX12_bridge_2 : decode cX12_bridge 2 = .ok (.bipush 11, 2) := by decide +kernel
theorem dX12_bridge_4 : decode cX12_bridge 4 = .ok (.invokestatic 78, 3) := by decide +kernel
theorem dX12_bridge_7 : decode cX12_bridge 7 = .ok (.ifCond .ne 5, 3) := by decide +kernel
theorem dX12_bridge_10 : decode cX12_bridge 10 = .ok (.iconst (-1), 1) := by decide +kernel
theorem dX12_bridge_11 : decode cX12_bridge 11 = .ok (.ireturn, 1) := by decide +kernel
theorem dX12_bridge_12 : decode cX12_bridge 12 = .ok (.aload_n 0, 1) := by decide +kernel
theorem dX12_bridge_13 : decode cX12_bridge 13 = .ok (.getfield 19, 3) := by decide +kernel
theorem dX12_bridge_16 : decode cX12_bridge 16 = .ok (.aload_n 0, 1) := by decide +kernel
theorem dX12_bridge_17 : decode cX12_bridge 17 = .ok (.getfield 82, 3) := by decide +kernel
theorem dX12_bridge_20 : decode cX12_bridge 20 = .ok (.invokestatic 213, 3) := by decide +kernel
theorem dX12_bridge_23 : decode cX12_bridge 23 = .ok (.ifCond .ne 6, 3) := by decide +kernel
theorem dX12_bridge_26 : decode cX12_bridge 26 = .ok (.bipush (-3), 2) := by decide +kernel
theorem dX12_bridge_28 : decode cX12_bridge 28 = .ok (.ireturn, 1) := by decide +kernel
theorem dX12_bridge_29 : decode cX12_bridge 29 = .ok (.iconst 0, 1) := by decide +kernel
theorem dX12_bridge_30 : decode cX12_bridge 30 = .ok (.istore_n 2, 1) := by decide +kernel
theorem dX12_bridge_31 : decode cX12_bridge 31 = .ok (.iconst 0, 1) := by decide +kernel
theorem dX12_bridge_32 : decode cX12_bridge 32 = .ok (.istore_n 3, 1) := by decide +kernel
theorem dX12_bridge_33 : decode cX12_bridge 33 = .ok (.iload_n 3, 1) := by decide +kernel
theorem dX12_bridge_34 : decode cX12_bridge 34 = .ok (.aload_n 0, 1) := by decide +kernel
theorem dX12_bridge_35 : decode cX12_bridge 35 = .ok (.getfield 82, 3) := by decide +kernel
theorem dX12_bridge_38 : decode cX12_bridge 38 = .ok (.if_icmp .ge 87, 3) := by decide +kernel
theorem dX12_bridge_41 : decode cX12_bridge 41 = .ok (.iconst 0, 1) := by decide +kernel
theorem dX12_bridge_42 : decode cX12_bridge 42 = .ok (.istore 4, 2) := by decide +kernel
theorem dX12_bridge_44 : decode cX12_bridge 44 = .ok (.iload 4, 2) := by decide +kernel
theorem dX12_bridge_46 : decode cX12_bridge 46 = .ok (.aload_n 0, 1) := by decide +kernel
theorem dX12_bridge_47 : decode cX12_bridge 47 = .ok (.getfield 82, 3) := by decide +kernel
theorem dX12_bridge_50 : decode cX12_bridge 50 = .ok (.if_icmp .ge 69, 3) := by decide +kernel
theorem dX12_bridge_53 : decode cX12_bridge 53 = .ok (.iload_n 3, 1) := by decide +kernel
theorem dX12_bridge_54 : decode cX12_bridge 54 = .ok (.iload 4, 2) := by decide +kernel
theorem dX12_bridge_56 : decode cX12_bridge 56 = .ok (.if_icmp .eq 57, 3) := by decide +kernel
theorem dX12_bridge_59 : decode cX12_bridge 59 = .ok (.aload_n 0, 1) := by decide +kernel
theorem dX12_bridge_60 : decode cX12_bridge 60 = .ok (.getfield 19, 3) := by decide +kernel
theorem dX12_bridge_63 : decode cX12_bridge 63 = .ok (.iload_n 3, 1) := by decide +kernel
theorem dX12_bridge_64 : decode cX12_bridge 64 = .ok (.iaload, 1) := by decide +kernel
theorem dX12_bridge_65 : decode cX12_bridge 65 = .ok (.iload 4, 2) := by decide +kernel
theorem dX12_bridge_67 : decode cX12_bridge 67 = .ok (.invokestatic 106, 3) := by decide +kernel
theorem dX12_bridge_70 : decode cX12_bridge 70 = .ok (.ifCond .ne 6, 3) := by decide +kernel
theorem dX12_bridge_73 : decode cX12_bridge 73 = .ok (.goto 40, 3) := by decide +kernel
theorem dX12_bridge_76 : decode cX12_bridge 76 = .ok (.aload_n 0, 1) := by decide +kernel
theorem dX12_bridge_77 : decode cX12_bridge 77 = .ok (.iload_n 3, 1) := by decide +kernel
theorem dX12_bridge_78 : decode cX12_bridge 78 = .ok (.iload 4, 2) := by decide +kernel
theorem dX12_bridge_80 : decode cX12_bridge 80 = .ok (.invokevirtual 217, 3) := by decide +kernel
theorem dX12_bridge_83 : decode cX12_bridge 83 = .ok (.aload_n 0, 1) := by decide +kernel
theorem dX12_bridge_84 : decode cX12_bridge 84 = .ok (.getfield 66, 3) := by decide +kernel
theorem dX12_bridge_87 : decode cX12_bridge 87 = .ok (.aload_n 0, 1) := by decide +kernel
theorem dX12_bridge_88 : decode cX12_bridge 88 = .ok (.getfield 82, 3) := by decide +kernel
theorem dX12_bridge_91 : decode cX12_bridge 91 = .ok (.invokestatic 213, 3) := by decide +kernel
theorem dX12_bridge_94 : decode cX12_bridge 94 = .ok (.ifCond .ne 19, 3) := by decide +kernel
theorem dX12_bridge_97 : decode cX12_bridge 97 = .ok (.iload_n 2, 1) := by decide +kernel
theorem dX12_bridge_98 : decode cX12_bridge 98 = .ok (.iload_n 1, 1) := by decide +kernel
theorem dX12_bridge_99 : decode cX12_bridge 99 = .ok (.if_icmp .ne 11, 3) := by decide +kernel
theorem dX12_bridge_102 : decode cX12_bridge 102 = .ok (.bipush 10, 2) := by decide +kernel
theorem dX12_bridge_104 : decode cX12_bridge 104 = .ok (.iload_n 3, 1) := by decide +kernel
theorem dX12_bridge_105 : decode cX12_bridge 105 = .ok (.imul, 1) := by decide +kernel
theorem dX12_bridge_106 : decode cX12_bridge 106 = .ok (.iload 4, 2) := by decide +kernel
theorem dX12_bridge_108 : decode cX12_bridge 108 = .ok (.iadd, 1) := by decide +kernel
theorem dX12_bridge_109 : decode cX12_bridge 109 = .ok (.ireturn, 1) := by decide +kernel
theorem dX12_bridge_110 : decode cX12_bridge 110 = .ok (.iinc 2 1, 3) := by decide +kernel
theorem dX12_bridge_113 : decode cX12_bridge 113 = .ok (.iinc 4 1, 3) := by decide +kernel
theorem dX12_bridge_116 : decode cX12_bridge 116 = .ok (.goto (-72), 3) := by decide +kernel
theorem dX12_bridge_119 : decode cX12_bridge 119 = .ok (.iinc 3 1, 3) := by decide +kernel
theorem dX12_bridge_122 : decode cX12_bridge 122 = .ok (.goto (-89), 3) := by decide +kernel
theorem dX12_bridge_125 : decode cX12_bridge 125 = .ok (.iload_n 1, 1) := by decide +kernel
theorem dX12_bridge_126 : decode cX12_bridge 126 = .ok (.iconst (-1), 1) := by decide +kernel
theorem dX12_bridge_127 : decode cX12_bridge 127 = .ok (.if_icmp .ne 7, 3) := by decide +kernel
theorem dX12_bridge_130 : decode cX12_bridge 130 = .ok (.iload_n 2, 1) := by decide +kernel
theorem dX12_bridge_131 : decode cX12_bridge 131 = .ok (.goto 5, 3) := by decide +kernel
theorem dX12_bridge_134 : decode cX12_bridge 134 = .ok (.bipush (-9), 2) := by decide +kernel
theorem dX12_bridge_136 : decode cX12_bridge 136 = .ok (.ireturn, 1) := by decide +kernel
theorem dX12_sun_0 : decode cX12_sun 0 = .ok (.aload_n 0, 1) := by decide +kernel
theorem dX12_sun_1 : decode cX12_sun 1 = .ok (.getfield 82, 3) := by decide +kernel
theorem dX12_sun_4 : decode cX12_sun 4 = .ok (.ifCond .ne 6, 3) := by decide +kernel
theorem dX12_sun_7 : decode cX12_sun 7 = .ok (.bipush (-3), 2) := by decide +kernel
theorem dX12_sun_9 : decode cX12_sun 9 = .ok (.ireturn, 1) := by decide +kernel
theorem dX12_sun_10 : decode cX12_sun 10 = .ok (.iconst 0, 1) := by decide +kernel
theorem dX12_sun_11 : decode cX12_sun 11 = .ok (.istore_n 1, 1) := by decide +kernel
theorem dX12_sun_12 : decode cX12_sun 12 = .ok (.iconst 0, 1) := by decide +kernel
theorem dX12_sun_13 : decode cX12_sun 13 = .ok (.istore_n 2, 1) := by decide +kernel
theorem dX12_sun_14 : decode cX12_sun 14 = .ok (.iload_n 2, 1) := by decide +kernel
theorem dX12_sun_15 : decode cX12_sun 15 = .ok (.aload_n 0, 1) := by decide +kernel
theorem dX12_sun_16 : decode cX12_sun 16 = .ok (.getfield 82, 3) := by decide +kernel
theorem dX12_sun_19 : decode cX12_sun 19 = .ok (.if_icmp .ge 28, 3) := by decide +kernel
theorem dX12_sun_22 : decode cX12_sun 22 = .ok (.iload_n 1, 1) := by decide +kernel
theorem dX12_sun_23 : decode cX12_sun 23 = .ok (.aload_n 0, 1) := by decide +kernel
theorem dX12_sun_24 : decode cX12_sun 24 = .ok (.getfield 19, 3) := by decide +kernel
theorem dX12_sun_27 : decode cX12_sun 27 = .ok (.iload_n 2, 1) := by decide +kernel
theorem dX12_sun_28 : decode cX12_sun 28 = .ok (.iaload, 1) := by decide +kernel
theorem dX12_sun_29 : decode cX12_sun 29 = .ok (.ifCond .eq 9, 3) := by decide +kernel
theorem dX12_sun_32 : decode cX12_sun 32 = .ok (.iconst 1, 1) := by decide +kernel
theorem dX12_sun_33 : decode cX12_sun 33 = .ok (.iload_n 2, 1) := by decide +kernel
theorem dX12_sun_34 : decode cX12_sun 34 = .ok (.ishl, 1) := by decide +kernel
theorem dX12_sun_35 : decode cX12_sun 35 = .ok (.goto 4, 3) := by decide +kernel
theorem dX12_sun_38 : decode cX12_sun 38 = .ok (.iconst 0, 1) := by decide +kernel
theorem dX12_sun_39 : decode cX12_sun 39 = .ok (.ior, 1) := by decide +kernel
theorem dX12_sun_40 : decode cX12_sun 40 = .ok (.istore_n 1, 1) := by decide +kernel
theorem dX12_sun_41 : decode cX12_sun 41 = .ok (.iinc 2 1, 3) := by decide +kernel
theorem dX12_sun_44 : decode cX12_sun 44 = .ok (.goto (-30), 3) := by decide +kernel
theorem dX12_sun_47 : decode cX12_sun 47 = .ok (.iconst 0, 1) := by decide +kernel
theorem dX12_sun_48 : decode cX12_sun 48 = .ok (.istore_n 2, 1) := by decide +kernel
theorem dX12_sun_49 : decode cX12_sun 49 = .ok (.iload_n 2, 1) := by decide +kernel
theorem dX12_sun_50 : decode cX12_sun 50 = .ok (.aload_n 0, 1) := by decide +kernel
theorem dX12_sun_51 : decode cX12_sun 51 = .ok (.getfield 82, 3) := by decide +kernel
theorem dX12_sun_54 : decode cX12_sun 54 = .ok (.if_icmp .ge 82, 3) := by decide +kernel
theorem dX12_sun_57 : decode cX12_sun 57 = .ok (.iconst 1, 1) := by decide +kernel
theorem dX12_sun_58 : decode cX12_sun 58 = .ok (.iload_n 2, 1) := by decide +kernel
theorem dX12_sun_59 : decode cX12_sun 59 = .ok (.ishl, 1) := by decide +kernel
theorem dX12_sun_60 : decode cX12_sun 60 = .ok (.istore_n 3, 1) := by decide +kernel
theorem dX12_sun_61 : decode cX12_sun 61 = .ok (.iconst 0, 1) := by decide +kernel
theorem dX12_sun_62 : decode cX12_sun 62 = .ok (.istore 4, 2) := by decide +kernel
theorem dX12_sun_64 : decode cX12_sun 64 = .ok (.iload 4, 2) := by decide +kernel
theorem dX12_sun_66 : decode cX12_sun 66 = .ok (.aload_n 0, 1) := by decide +kernel
theorem dX12_sun_67 : decode cX12_sun 67 = .ok (.getfield 82, 3) := by decide +kernel
theorem dX12_sun_70 : decode cX12_sun 70 = .ok (.if_icmp .ge 50, 3) := by decide +kernel
theorem dX12_sun_73 : decode cX12_sun 73 = .ok (.iconst 0, 1) := by decide +kernel
theorem dX12_sun_74 : decode cX12_sun 74 = .ok (.istore 5, 2) := by decide +kernel
theorem dX12_sun_76 : decode cX12_sun 76 = .ok (.iload 5, 2) := by decide +kernel
theorem dX12_sun_78 : decode cX12_sun 78 = .ok (.aload_n 0, 1) := by decide +kernel
theorem dX12_sun_79 : decode cX12_sun 79 = .ok (.getfield 82, 3) := by decide +kernel
theorem dX12_sun_82 : decode cX12_sun 82 = .ok (.if_icmp .ge 32, 3) := by decide +kernel
theorem dX12_sun_85 : decode cX12_sun 85 = .ok (.iload_n 3, 1) := by decide +kernel
theorem dX12_sun_86 : decode cX12_sun 86 = .ok (.iload_n 3, 1) := by decide +kernel
theorem dX12_sun_87 : decode cX12_sun 87 = .ok (.iload 5, 2) := by decide +kernel
theorem dX12_sun_89 : decode cX12_sun 89 = .ok (.invokestatic 106, 3) := by decide +kernel
theorem dX12_sun_92 : decode cX12_sun 92 = .ok (.ifCond .eq 13, 3) := by decide +kernel
theorem dX12_sun_95 : decode cX12_sun 95 = .ok (.aload_n 0, 1) := by decide +kernel
theorem dX12_sun_96 : decode cX12_sun 96 = .ok (.getfield 19, 3) := by decide +kernel
theorem dX12_sun_99 : decode cX12_sun 99 = .ok (.iload 5, 2) := by decide +kernel
theorem dX12_sun_101 : decode cX12_sun 101 = .ok (.iaload, 1) := by decide +kernel
theorem dX12_sun_102 : decode cX12_sun 102 = .ok (.goto 4, 3) := by decide +kernel
theorem dX12_sun_105 : decode cX12_sun 105 = .ok (.iconst 0, 1) := by decide +kernel
theorem dX12_sun_106 : decode cX12_sun 106 = .ok (.ior, 1) := by decide +kernel
theorem dX12_sun_107 : decode cX12_sun 107 = .ok (.istore_n 3, 1) := by decide +kernel
theorem dX12_sun_108 : decode cX12_sun 108 = .ok (.iinc 5 1, 3) := by decide +kernel
theorem dX12_sun_111 : decode cX12_sun 111 = .ok (.goto (-35), 3) := by decide +kernel
theorem dX12_sun_114 : decode cX12_sun 114 = .ok (.iinc 4 1, 3) := by decide +kernel
theorem dX12_sun_117 : decode cX12_sun 117 = .ok (.goto (-53), 3) := by decide +kernel
theorem dX12_sun_120 : decode cX12_sun 120 = .ok (.iload_n 1, 1) := by decide +kernel
theorem dX12_sun_121 : decode cX12_sun 121 = .ok (.iload_n 3, 1) := by decide +kernel
theorem dX12_sun_122 : decode cX12_sun 122 = .ok (.iconst (-1), 1) := by decide +kernel
theorem dX12_sun_123 : decode cX12_sun 123 = .ok (.ixor, 1) := by decide +kernel
theorem dX12_sun_124 : decode cX12_sun 124 = .ok (.iand, 1) := by decide +kernel
theorem dX12_sun_125 : decode cX12_sun 125 = .ok (.ifCond .eq 5, 3) := by decide +kernel
theorem dX12_sun_128 : decode cX12_sun 128 = .ok (.iconst 0, 1) := by decide +kernel
theorem dX12_sun_129 : decode cX12_sun 129 = .ok (.ireturn, 1) := by decide +kernel
theorem dX12_sun_130 : decode cX12_sun 130 = .ok (.iinc 2 1, 3) := by decide +kernel
theorem dX12_sun_133 : decode cX12_sun 133 = .ok (.goto (-84), 3) := by decide +kernel
theorem dX12_sun_136 : decode cX12_sun 136 = .ok (.iconst 1, 1) := by decide +kernel
theorem dX12_sun_137 : decode cX12_sun 137 = .ok (.ireturn, 1) := by decide +kernel
theorem dX12_verdictFrom_0 : decode cX12_verdictFrom 0 = .ok (.aload_n 0, 1) := by decide +kernel
theorem dX12_verdictFrom_1 : decode cX12_verdictFrom 1 = .ok (.aload_n 1, 1) := by decide +kernel
theorem dX12_verdictFrom_2 : decode cX12_verdictFrom 2 = .ok (.iload_n 2, 1) := by decide +kernel
theorem dX12_verdictFrom_3 : decode cX12_verdictFrom 3 = .ok (.iload_n 3, 1) := by decide +kernel
theorem dX12_verdictFrom_4 : decode cX12_verdictFrom 4 = .ok (.invokevirtual 184, 3) := by decide +kernel
theorem dX12_verdictFrom_7 : decode cX12_verdictFrom 7 = .ok (.aload_n 0, 1) := by decide +kernel
theorem dX12_verdictFrom_8 : decode cX12_verdictFrom 8 = .ok (.aload_n 0, 1) := by decide +kernel
theorem dX12_verdictFrom_9 : decode cX12_verdictFrom 9 = .ok (.aload_n 0, 1) := by decide +kernel
theorem dX12_verdictFrom_10 : decode cX12_verdictFrom 10 = .ok (.iload_n 2, 1) := by decide +kernel
theorem dX12_verdictFrom_11 : decode cX12_verdictFrom 11 = .ok (.invokevirtual 114, 3) := by decide +kernel
theorem dX12_verdictFrom_14 : decode cX12_verdictFrom 14 = .ok (.iconst 1, 1) := by decide +kernel
theorem dX12_verdictFrom_15 : decode cX12_verdictFrom 15 = .ok (.iload_n 2, 1) := by decide +kernel
theorem dX12_verdictFrom_16 : decode cX12_verdictFrom 16 = .ok (.ishl, 1) := by decide +kernel
theorem dX12_verdictFrom_17 : decode cX12_verdictFrom 17 = .ok (.iconst 1, 1) := by decide +kernel
theorem dX12_verdictFrom_18 : decode cX12_verdictFrom 18 = .ok (.isub, 1) := by decide +kernel
theorem dX12_verdictFrom_19 : decode cX12_verdictFrom 19 = .ok (.invokevirtual 188, 3) := by decide +kernel
theorem dX12_verdictFrom_22 : decode cX12_verdictFrom 22 = .ok (.invokevirtual 194, 3) := by decide +kernel
theorem dX12_verdictFrom_25 : decode cX12_verdictFrom 25 = .ok (.ireturn, 1) := by decide +kernel
theorem dX12_mend_0 : decode cX12_mend 0 = .ok (.iload_n 1, 1) := by decide +kernel
theorem dX12_mend_1 : decode cX12_mend 1 = .ok (.invokestatic 150, 3) := by decide +kernel
theorem dX12_mend_4 : decode cX12_mend 4 = .ok (.ifCond .eq 13, 3) := by decide +kernel
theorem dX12_mend_7 : decode cX12_mend 7 = .ok (.iload_n 2, 1) := by decide +kernel
theorem dX12_mend_8 : decode cX12_mend 8 = .ok (.iconst (-1), 1) := by decide +kernel
theorem dX12_mend_9 : decode cX12_mend 9 = .ok (.bipush 11, 2) := by decide +kernel
theorem dX12_mend_11 : decode cX12_mend 11 = .ok (.invokestatic 78, 3) := by decide +kernel
theorem dX12_mend_14 : decode cX12_mend 14 = .ok (.ifCond .ne 5, 3) := by decide +kernel
theorem dX12_mend_17 : decode cX12_mend 17 = .ok (.iconst (-1), 1) := by decide +kernel
theorem dX12_mend_18 : decode cX12_mend 18 = .ok (.ireturn, 1) := by decide +kernel
theorem dX12_mend_19 : decode cX12_mend 19 = .ok (.aload_n 0, 1) := by decide +kernel
theorem dX12_mend_20 : decode cX12_mend 20 = .ok (.getfield 82, 3) := by decide +kernel
theorem dX12_mend_23 : decode cX12_mend 23 = .ok (.ifCond .ne 6, 3) := by decide +kernel
theorem dX12_mend_26 : decode cX12_mend 26 = .ok (.bipush (-3), 2) := by decide +kernel
theorem dX12_mend_28 : decode cX12_mend 28 = .ok (.ireturn, 1) := by decide +kernel
theorem dX12_mend_29 : decode cX12_mend 29 = .ok (.iconst 0, 1) := by decide +kernel
theorem dX12_mend_30 : decode cX12_mend 30 = .ok (.istore_n 3, 1) := by decide +kernel
theorem dX12_mend_31 : decode cX12_mend 31 = .ok (.iconst 0, 1) := by decide +kernel
theorem dX12_mend_32 : decode cX12_mend 32 = .ok (.istore 4, 2) := by decide +kernel
theorem dX12_mend_34 : decode cX12_mend 34 = .ok (.iload 4, 2) := by decide +kernel
theorem dX12_mend_36 : decode cX12_mend 36 = .ok (.aload_n 0, 1) := by decide +kernel
theorem dX12_mend_37 : decode cX12_mend 37 = .ok (.getfield 82, 3) := by decide +kernel
theorem dX12_mend_40 : decode cX12_mend 40 = .ok (.if_icmp .ge 94, 3) := by decide +kernel
theorem dX12_mend_43 : decode cX12_mend 43 = .ok (.iconst 0, 1) := by decide +kernel
theorem dX12_mend_44 : decode cX12_mend 44 = .ok (.istore 5, 2) := by decide +kernel
theorem dX12_mend_46 : decode cX12_mend 46 = .ok (.iload 5, 2) := by decide +kernel
theorem dX12_mend_48 : decode cX12_mend 48 = .ok (.aload_n 0, 1) := by decide +kernel
theorem dX12_mend_49 : decode cX12_mend 49 = .ok (.getfield 82, 3) := by decide +kernel
theorem dX12_mend_52 : decode cX12_mend 52 = .ok (.if_icmp .ge 76, 3) := by decide +kernel
theorem dX12_mend_55 : decode cX12_mend 55 = .ok (.iload 4, 2) := by decide +kernel
theorem dX12_mend_57 : decode cX12_mend 57 = .ok (.iload 5, 2) := by decide +kernel
theorem dX12_mend_59 : decode cX12_mend 59 = .ok (.if_icmp .eq 63, 3) := by decide +kernel
theorem dX12_mend_62 : decode cX12_mend 62 = .ok (.aload_n 0, 1) := by decide +kernel
theorem dX12_mend_63 : decode cX12_mend 63 = .ok (.getfield 19, 3) := by decide +kernel
theorem dX12_mend_66 : decode cX12_mend 66 = .ok (.iload 4, 2) := by decide +kernel
theorem dX12_mend_68 : decode cX12_mend 68 = .ok (.iaload, 1) := by decide +kernel
theorem dX12_mend_69 : decode cX12_mend 69 = .ok (.iload 5, 2) := by decide +kernel
theorem dX12_mend_71 : decode cX12_mend 71 = .ok (.invokestatic 106, 3) := by decide +kernel
theorem dX12_mend_74 : decode cX12_mend 74 = .ok (.ifCond .eq 6, 3) := by decide +kernel
theorem dX12_mend_77 : decode cX12_mend 77 = .ok (.goto 45, 3) := by decide +kernel
theorem dX12_mend_80 : decode cX12_mend 80 = .ok (.aload_n 0, 1) := by decide +kernel
theorem dX12_mend_81 : decode cX12_mend 81 = .ok (.iload 4, 2) := by decide +kernel
theorem dX12_mend_83 : decode cX12_mend 83 = .ok (.iload 5, 2) := by decide +kernel
theorem dX12_mend_85 : decode cX12_mend 85 = .ok (.invokevirtual 217, 3) := by decide +kernel
theorem dX12_mend_88 : decode cX12_mend 88 = .ok (.aload_n 0, 1) := by decide +kernel
theorem dX12_mend_89 : decode cX12_mend 89 = .ok (.aload_n 0, 1) := by decide +kernel
theorem dX12_mend_90 : decode cX12_mend 90 = .ok (.getfield 66, 3) := by decide +kernel
theorem dX12_mend_93 : decode cX12_mend 93 = .ok (.aload_n 0, 1) := by decide +kernel
theorem dX12_mend_94 : decode cX12_mend 94 = .ok (.getfield 82, 3) := by decide +kernel
theorem dX12_mend_97 : decode cX12_mend 97 = .ok (.iload_n 1, 1) := by decide +kernel
theorem dX12_mend_98 : decode cX12_mend 98 = .ok (.invokevirtual 220, 3) := by decide +kernel
theorem dX12_mend_101 : decode cX12_mend 101 = .ok (.iconst 2, 1) := by decide +kernel
theorem dX12_mend_102 : decode cX12_mend 102 = .ok (.if_icmp .ne 20, 3) := by decide +kernel
theorem dX12_mend_105 : decode cX12_mend 105 = .ok (.iload_n 3, 1) := by decide +kernel
theorem dX12_mend_106 : decode cX12_mend 106 = .ok (.iload_n 2, 1) := by decide +kernel
theorem dX12_mend_107 : decode cX12_mend 107 = .ok (.if_icmp .ne 12, 3) := by decide +kernel
theorem dX12_mend_110 : decode cX12_mend 110 = .ok (.bipush 10, 2) := by decide +kernel
theorem dX12_mend_112 : decode cX12_mend 112 = .ok (.iload 4, 2) := by decide +kernel
theorem dX12_mend_114 : decode cX12_mend 114 = .ok (.imul, 1) := by decide +kernel
theorem dX12_mend_115 : decode cX12_mend 115 = .ok (.iload 5, 2) := by decide +kernel
theorem dX12_mend_117 : decode cX12_mend 117 = .ok (.iadd, 1) := by decide +kernel
theorem dX12_mend_118 : decode cX12_mend 118 = .ok (.ireturn, 1) := by decide +kernel
theorem dX12_mend_119 : decode cX12_mend 119 = .ok (.iinc 3 1, 3) := by decide +kernel
theorem dX12_mend_122 : decode cX12_mend 122 = .ok (.iinc 5 1, 3) := by decide +kernel
theorem dX12_mend_125 : decode cX12_mend 125 = .ok (.goto (-79), 3) := by decide +kernel
theorem dX12_mend_128 : decode cX12_mend 128 = .ok (.iinc 4 1, 3) := by decide +kernel
theorem dX12_mend_131 : decode cX12_mend 131 = .ok (.goto (-97), 3) := by decide +kernel
theorem dX12_mend_134 : decode cX12_mend 134 = .ok (.iload_n 2, 1) := by decide +kernel
theorem dX12_mend_135 : decode cX12_mend 135 = .ok (.iconst (-1), 1) := by decide +kernel
theorem dX12_mend_136 : decode cX12_mend 136 = .ok (.if_icmp .ne 7, 3) := by decide +kernel
theorem dX12_mend_139 : decode cX12_mend 139 = .ok (.iload_n 3, 1) := by decide +kernel
theorem dX12_mend_140 : decode cX12_mend 140 = .ok (.goto 5, 3) := by decide +kernel
theorem dX12_mend_143 : decode cX12_mend 143 = .ok (.bipush (-9), 2) := by decide +kernel
theorem dX12_mend_145 : decode cX12_mend 145 = .ok (.ireturn, 1) := by decide +kernel
theorem dX12_layNet_0 : decode cX12_layNet 0 = .ok (.iload_n 1, 1) := by decide +kernel
theorem dX12_layNet_1 : decode cX12_layNet 1 = .ok (.istore_n 3, 1) := by decide +kernel
theorem dX12_layNet_2 : decode cX12_layNet 2 = .ok (.iconst 0, 1) := by decide +kernel
theorem dX12_layNet_3 : decode cX12_layNet 3 = .ok (.istore 4, 2) := by decide +kernel
theorem dX12_layNet_5 : decode cX12_layNet 5 = .ok (.iload 4, 2) := by decide +kernel
theorem dX12_layNet_7 : decode cX12_layNet 7 = .ok (.iload_n 2, 1) := by decide +kernel
theorem dX12_layNet_8 : decode cX12_layNet 8 = .ok (.if_icmp .ge 59, 3) := by decide +kernel
theorem dX12_layNet_11 : decode cX12_layNet 11 = .ok (.aload_n 0, 1) := by decide +kernel
theorem dX12_layNet_12 : decode cX12_layNet 12 = .ok (.getfield 66, 3) := by decide +kernel
theorem dX12_layNet_15 : decode cX12_layNet 15 = .ok (.iload 4, 2) := by decide +kernel
theorem dX12_layNet_17 : decode cX12_layNet 17 = .ok (.iconst 0, 1) := by decide +kernel
theorem dX12_layNet_18 : decode cX12_layNet 18 = .ok (.iastore, 1) := by decide +kernel
theorem dX12_layNet_19 : decode cX12_layNet 19 = .ok (.iconst 0, 1) := by decide +kernel
theorem dX12_layNet_20 : decode cX12_layNet 20 = .ok (.istore 5, 2) := by decide +kernel
theorem dX12_layNet_22 : decode cX12_layNet 22 = .ok (.iload 5, 2) := by decide +kernel
theorem dX12_layNet_24 : decode cX12_layNet 24 = .ok (.iload_n 2, 1) := by decide +kernel
theorem dX12_layNet_25 : decode cX12_layNet 25 = .ok (.if_icmp .ge 36, 3) := by decide +kernel
theorem dX12_layNet_28 : decode cX12_layNet 28 = .ok (.iload 4, 2) := by decide +kernel
theorem dX12_layNet_30 : decode cX12_layNet 30 = .ok (.iload 5, 2) := by decide +kernel
theorem dX12_layNet_32 : decode cX12_layNet 32 = .ok (.if_icmp .eq 23, 3) := by decide +kernel
theorem dX12_layNet_35 : decode cX12_layNet 35 = .ok (.aload_n 0, 1) := by decide +kernel
theorem dX12_layNet_36 : decode cX12_layNet 36 = .ok (.getfield 66, 3) := by decide +kernel
theorem dX12_layNet_39 : decode cX12_layNet 39 = .ok (.iload 4, 2) := by decide +kernel
theorem dX12_layNet_41 : decode cX12_layNet 41 = .ok (.dup2, 1) := by decide +kernel
theorem dX12_layNet_42 : decode cX12_layNet 42 = .ok (.iaload, 1) := by decide +kernel
theorem dX12_layNet_43 : decode cX12_layNet 43 = .ok (.iload_n 3, 1) := by decide +kernel
theorem dX12_layNet_44 : decode cX12_layNet 44 = .ok (.iconst 1, 1) := by decide +kernel
theorem dX12_layNet_45 : decode cX12_layNet 45 = .ok (.iand, 1) := by decide +kernel
theorem dX12_layNet_46 : decode cX12_layNet 46 = .ok (.iload 5, 2) := by decide +kernel
theorem dX12_layNet_48 : decode cX12_layNet 48 = .ok (.ishl, 1) := by decide +kernel
theorem dX12_layNet_49 : decode cX12_layNet 49 = .ok (.ior, 1) := by decide +kernel
theorem dX12_layNet_50 : decode cX12_layNet 50 = .ok (.iastore, 1) := by decide +kernel
theorem dX12_layNet_51 : decode cX12_layNet 51 = .ok (.iload_n 3, 1) := by decide +kernel
theorem dX12_layNet_52 : decode cX12_layNet 52 = .ok (.iconst 1, 1) := by decide +kernel
theorem dX12_layNet_53 : decode cX12_layNet 53 = .ok (.ishr, 1) := by decide +kernel
theorem dX12_layNet_54 : decode cX12_layNet 54 = .ok (.istore_n 3, 1) := by decide +kernel
theorem dX12_layNet_55 : decode cX12_layNet 55 = .ok (.iinc 5 1, 3) := by decide +kernel
theorem dX12_layNet_58 : decode cX12_layNet 58 = .ok (.goto (-36), 3) := by decide +kernel
theorem dX12_layNet_61 : decode cX12_layNet 61 = .ok (.iinc 4 1, 3) := by decide +kernel
theorem dX12_layNet_64 : decode cX12_layNet 64 = .ok (.goto (-59), 3) := by decide +kernel
theorem dX12_layNet_67 : decode cX12_layNet 67 = .ok (.return_, 1) := by decide +kernel
theorem dX12_nets_0 : decode cX12_nets 0 = .ok (.iload_n 2, 1) := by decide +kernel
theorem dX12_nets_1 : decode cX12_nets 1 = .ok (.invokestatic 150, 3) := by decide +kernel
theorem dX12_nets_4 : decode cX12_nets 4 = .ok (.ifCond .ne 5, 3) := by decide +kernel
theorem dX12_nets_7 : decode cX12_nets 7 = .ok (.iconst (-1), 1) := by decide +kernel
theorem dX12_nets_8 : decode cX12_nets 8 = .ok (.ireturn, 1) := by decide +kernel
theorem dX12_nets_9 : decode cX12_nets 9 = .ok (.iload_n 1, 1) := by decide +kernel
theorem dX12_nets_10 : decode cX12_nets 10 = .ok (.iconst 1, 1) := by decide +kernel
theorem dX12_nets_11 : decode cX12_nets 11 = .ok (.iconst 3, 1) := by decide +kernel
theorem dX12_nets_12 : decode cX12_nets 12 = .ok (.invokestatic 78, 3) := by decide +kernel
theorem dX12_nets_15 : decode cX12_nets 15 = .ok (.ifCond .eq 12, 3) := by decide +kernel
theorem dX12_nets_18 : decode cX12_nets 18 = .ok (.iload_n 3, 1) := by decide +kernel
theorem dX12_nets_19 : decode cX12_nets 19 = .ok (.iconst 0, 1) := by decide +kernel
theorem dX12_nets_20 : decode cX12_nets 20 = .ok (.iconst 3, 1) := by decide +kernel
theorem dX12_nets_21 : decode cX12_nets 21 = .ok (.invokestatic 78, 3) := by decide +kernel
theorem dX12_nets_24 : decode cX12_nets 24 = .ok (.ifCond .ne 6, 3) := by decide +kernel
theorem dX12_nets_27 : decode cX12_nets 27 = .ok (.bipush (-2), 2) := by decide +kernel
theorem dX12_nets_29 : decode cX12_nets 29 = .ok (.ireturn, 1) := by decide +kernel
theorem dX12_nets_30 : decode cX12_nets 30 = .ok (.iconst 0, 1) := by decide +kernel
theorem dX12_nets_31 : decode cX12_nets 31 = .ok (.istore 4, 2) := by decide +kernel
theorem dX12_nets_33 : decode cX12_nets 33 = .ok (.iconst 0, 1) := by decide +kernel
theorem dX12_nets_34 : decode cX12_nets 34 = .ok (.istore 5, 2) := by decide +kernel
theorem dX12_nets_36 : decode cX12_nets 36 = .ok (.iload 5, 2) := by decide +kernel
theorem dX12_nets_38 : decode cX12_nets 38 = .ok (.iconst 1, 1) := by decide +kernel
theorem dX12_nets_39 : decode cX12_nets 39 = .ok (.iload_n 1, 1) := by decide +kernel
theorem dX12_nets_40 : decode cX12_nets 40 = .ok (.iload_n 1, 1) := by decide +kernel
theorem dX12_nets_41 : decode cX12_nets 41 = .ok (.iconst 1, 1) := by decide +kernel
theorem dX12_nets_42 : decode cX12_nets 42 = .ok (.isub, 1) := by decide +kernel
theorem dX12_nets_43 : decode cX12_nets 43 = .ok (.imul, 1) := by decide +kernel
theorem dX12_nets_44 : decode cX12_nets 44 = .ok (.ishl, 1) := by decide +kernel
theorem dX12_nets_45 : decode cX12_nets 45 = .ok (.if_icmp .ge 56, 3) := by decide +kernel
theorem dX12_nets_48 : decode cX12_nets 48 = .ok (.aload_n 0, 1) := by decide +kernel
theorem dX12_nets_49 : decode cX12_nets 49 = .ok (.iload 5, 2) := by decide +kernel
theorem dX12_nets_51 : decode cX12_nets 51 = .ok (.iload_n 1, 1) := by decide +kernel
theorem dX12_nets_52 : decode cX12_nets 52 = .ok (.invokevirtual 223, 3) := by decide +kernel
theorem dX12_nets_55 : decode cX12_nets 55 = .ok (.aload_n 0, 1) := by decide +kernel
theorem dX12_nets_56 : decode cX12_nets 56 = .ok (.getfield 66, 3) := by decide +kernel
theorem dX12_nets_59 : decode cX12_nets 59 = .ok (.iload_n 1, 1) := by decide +kernel
theorem dX12_nets_60 : decode cX12_nets 60 = .ok (.invokestatic 213, 3) := by decide +kernel
theorem dX12_nets_63 : decode cX12_nets 63 = .ok (.ifCond .eq 32, 3) := by decide +kernel
theorem dX12_nets_66 : decode cX12_nets 66 = .ok (.iload 4, 2) := by decide +kernel
theorem dX12_nets_68 : decode cX12_nets 68 = .ok (.iload_n 3, 1) := by decide +kernel
theorem dX12_nets_69 : decode cX12_nets 69 = .ok (.iconst 3, 1) := by decide +kernel
theorem dX12_nets_70 : decode cX12_nets 70 = .ok (.if_icmp .eq 17, 3) := by decide +kernel
theorem dX12_nets_73 : decode cX12_nets 73 = .ok (.aload_n 0, 1) := by decide +kernel
theorem dX12_nets_74 : decode cX12_nets 74 = .ok (.aload_n 0, 1) := by decide +kernel
theorem dX12_nets_75 : decode cX12_nets 75 = .ok (.getfield 66, 3) := by decide +kernel
theorem dX12_nets_78 : decode cX12_nets 78 = .ok (.iload_n 1, 1) := by decide +kernel
theorem dX12_nets_79 : decode cX12_nets 79 = .ok (.iload_n 2, 1) := by decide +kernel
theorem dX12_nets_80 : decode cX12_nets 80 = .ok (.invokevirtual 220, 3) := by decide +kernel
theorem dX12_nets_83 : decode cX12_nets 83 = .ok (.iload_n 3, 1) := by decide +kernel
theorem dX12_nets_84 : decode cX12_nets 84 = .ok (.if_icmp .ne 7, 3) := by decide +kernel
theorem dX12_nets_87 : decode cX12_nets 87 = .ok (.iconst 1, 1) := by decide +kernel
theorem dX12_nets_88 : decode cX12_nets 88 = .ok (.goto 4, 3) := by decide +kernel
theorem dX12_nets_91 : decode cX12_nets 91 = .ok (.iconst 0, 1) := by decide +kernel
theorem dX12_nets_92 : decode cX12_nets 92 = .ok (.iadd, 1) := by decide +kernel
theorem dX12_nets_93 : decode cX12_nets 93 = .ok (.istore 4, 2) := by decide +kernel
theorem dX12_nets_95 : decode cX12_nets 95 = .ok (.iinc 5 1, 3) := by decide +kernel
theorem dX12_nets_98 : decode cX12_nets 98 = .ok (.goto (-62), 3) := by decide +kernel
theorem dX12_nets_101 : decode cX12_nets 101 = .ok (.iload 4, 2) := by decide +kernel
theorem dX12_nets_103 : decode cX12_nets 103 = .ok (.ireturn, 1) := by decide +kernel
theorem dX12_within_0 : decode cX12_within 0 = .ok (.iload_n 1, 1) := by decide +kernel
theorem dX12_within_1 : decode cX12_within 1 = .ok (.invokestatic 150, 3) := by decide +kernel
theorem dX12_within_4 : decode cX12_within 4 = .ok (.ifCond .eq 10, 3) := by decide +kernel
theorem dX12_within_7 : decode cX12_within 7 = .ok (.iload_n 2, 1) := by decide +kernel
theorem dX12_within_8 : decode cX12_within 8 = .ok (.invokestatic 150, 3) := by decide +kernel
theorem dX12_within_11 : decode cX12_within 11 = .ok (.ifCond .ne 5, 3) := by decide +kernel
theorem dX12_within_14 : decode cX12_within 14 = .ok (.iconst (-1), 1) := by decide +kernel
theorem dX12_within_15 : decode cX12_within 15 = .ok (.ireturn, 1) := by decide +kernel
theorem dX12_within_16 : decode cX12_within 16 = .ok (.iload_n 1, 1) := by decide +kernel
theorem dX12_within_17 : decode cX12_within 17 = .ok (.iload_n 2, 1) := by decide +kernel
theorem dX12_within_18 : decode cX12_within 18 = .ok (.iadd, 1) := by decide +kernel
theorem dX12_within_19 : decode cX12_within 19 = .ok (.iconst 5, 1) := by decide +kernel
theorem dX12_within_20 : decode cX12_within 20 = .ok (.if_icmp .ne 16, 3) := by decide +kernel
theorem dX12_within_23 : decode cX12_within 23 = .ok (.iload_n 1, 1) := by decide +kernel
theorem dX12_within_24 : decode cX12_within 24 = .ok (.iconst 1, 1) := by decide +kernel
theorem dX12_within_25 : decode cX12_within 25 = .ok (.if_icmp .le 11, 3) := by decide +kernel
theorem dX12_within_28 : decode cX12_within 28 = .ok (.iload_n 2, 1) := by decide +kernel
theorem dX12_within_29 : decode cX12_within 29 = .ok (.iconst 1, 1) := by decide +kernel
theorem dX12_within_30 : decode cX12_within 30 = .ok (.if_icmp .le 6, 3) := by decide +kernel
theorem dX12_within_33 : decode cX12_within 33 = .ok (.bipush (-2), 2) := by decide +kernel
theorem dX12_within_35 : decode cX12_within 35 = .ok (.ireturn, 1) := by decide +kernel
theorem dX12_within_36 : decode cX12_within 36 = .ok (.aload_n 0, 1) := by decide +kernel
theorem dX12_within_37 : decode cX12_within 37 = .ok (.getfield 82, 3) := by decide +kernel
theorem dX12_within_40 : decode cX12_within 40 = .ok (.ifCond .ne 6, 3) := by decide +kernel
theorem dX12_within_43 : decode cX12_within 43 = .ok (.bipush (-3), 2) := by decide +kernel
theorem dX12_within_45 : decode cX12_within 45 = .ok (.ireturn, 1) := by decide +kernel
theorem dX12_within_46 : decode cX12_within 46 = .ok (.iload_n 1, 1) := by decide +kernel
theorem dX12_within_47 : decode cX12_within 47 = .ok (.iconst 1, 1) := by decide +kernel
theorem dX12_within_48 : decode cX12_within 48 = .ok (.if_icmp .le 7, 3) := by decide +kernel
theorem dX12_within_51 : decode cX12_within 51 = .ok (.iload_n 1, 1) := by decide +kernel
theorem dX12_within_52 : decode cX12_within 52 = .ok (.goto 4, 3) := by decide +kernel
theorem dX12_within_55 : decode cX12_within 55 = .ok (.iload_n 2, 1) := by decide +kernel
theorem dX12_within_56 : decode cX12_within 56 = .ok (.istore_n 3, 1) := by decide +kernel
theorem dX12_within_57 : decode cX12_within 57 = .ok (.aload_n 0, 1) := by decide +kernel
theorem dX12_within_58 : decode cX12_within 58 = .ok (.aload_n 0, 1) := by decide +kernel
theorem dX12_within_59 : decode cX12_within 59 = .ok (.getfield 19, 3) := by decide +kernel
theorem dX12_within_62 : decode cX12_within 62 = .ok (.aload_n 0, 1) := by decide +kernel
theorem dX12_within_63 : decode cX12_within 63 = .ok (.getfield 82, 3) := by decide +kernel
theorem dX12_within_66 : decode cX12_within 66 = .ok (.iload_n 1, 1) := by decide +kernel
theorem dX12_within_67 : decode cX12_within 67 = .ok (.invokevirtual 184, 3) := by decide +kernel
theorem dX12_within_70 : decode cX12_within 70 = .ok (.iconst 0, 1) := by decide +kernel
theorem dX12_within_71 : decode cX12_within 71 = .ok (.istore 4, 2) := by decide +kernel
theorem dX12_within_73 : decode cX12_within 73 = .ok (.iconst 1, 1) := by decide +kernel
theorem dX12_within_74 : decode cX12_within 74 = .ok (.istore 5, 2) := by decide +kernel
theorem dX12_within_76 : decode cX12_within 76 = .ok (.aload_n 0, 1) := by decide +kernel
theorem dX12_within_77 : decode cX12_within 77 = .ok (.getfield 69, 3) := by decide +kernel
theorem dX12_within_80 : decode cX12_within 80 = .ok (.iconst 0, 1) := by decide +kernel
theorem dX12_within_81 : decode cX12_within 81 = .ok (.aload_n 0, 1) := by decide +kernel
theorem dX12_within_82 : decode cX12_within 82 = .ok (.aload_n 0, 1) := by decide +kernel
theorem dX12_within_83 : decode cX12_within 83 = .ok (.getfield 103, 3) := by decide +kernel
theorem dX12_within_86 : decode cX12_within 86 = .ok (.invokevirtual 128, 3) := by decide +kernel
theorem dX12_within_89 : decode cX12_within 89 = .ok (.aload_n 0, 1) := by decide +kernel
theorem dX12_within_90 : decode cX12_within 90 = .ok (.iload_n 3, 1) := by decide +kernel
theorem dX12_within_91 : decode cX12_within 91 = .ok (.invokevirtual 135, 3) := by decide +kernel
theorem dX12_within_94 : decode cX12_within 94 = .ok (.bipush 16, 2) := by decide +kernel
theorem dX12_within_96 : decode cX12_within 96 = .ok (.ishl, 1) := by decide +kernel
theorem dX12_within_97 : decode cX12_within 97 = .ok (.ior, 1) := by decide +kernel
theorem dX12_within_98 : decode cX12_within 98 = .ok (.iastore, 1) := by decide +kernel
theorem dX12_within_99 : decode cX12_within 99 = .ok (.aload_n 0, 1) := by decide +kernel
theorem dX12_within_100 : decode cX12_within 100 = .ok (.getfield 32, 3) := by decide +kernel
theorem dX12_within_103 : decode cX12_within 103 = .ok (.aload_n 0, 1) := by decide +kernel
theorem dX12_within_104 : decode cX12_within 104 = .ok (.aload_n 0, 1) := by decide +kernel
theorem dX12_within_105 : decode cX12_within 105 = .ok (.getfield 103, 3) := by decide +kernel
theorem dX12_within_108 : decode cX12_within 108 = .ok (.invokevirtual 128, 3) := by decide +kernel
theorem dX12_within_111 : decode cX12_within 111 = .ok (.aload_n 0, 1) := by decide +kernel
theorem dX12_within_112 : decode cX12_within 112 = .ok (.iload_n 3, 1) := by decide +kernel
theorem dX12_within_113 : decode cX12_within 113 = .ok (.invokevirtual 135, 3) := by decide +kernel
theorem dX12_within_116 : decode cX12_within 116 = .ok (.invokestatic 158, 3) := by decide +kernel
theorem dX12_within_119 : decode cX12_within 119 = .ok (.aload_n 0, 1) := by decide +kernel
theorem dX12_within_120 : decode cX12_within 120 = .ok (.getfield 161, 3) := by decide +kernel
theorem dX12_within_123 : decode cX12_within 123 = .ok (.iastore, 1) := by decide +kernel
theorem dX12_within_124 : decode cX12_within 124 = .ok (.iload 4, 2) := by decide +kernel
theorem dX12_within_126 : decode cX12_within 126 = .ok (.iload 5, 2) := by decide +kernel
theorem dX12_within_128 : decode cX12_within 128 = .ok (.if_icmp .ge 197, 3) := by decide +kernel
theorem dX12_within_131 : decode cX12_within 131 = .ok (.aload_n 0, 1) := by decide +kernel
theorem dX12_within_132 : decode cX12_within 132 = .ok (.getfield 69, 3) := by decide +kernel
theorem dX12_within_135 : decode cX12_within 135 = .ok (.iload 4, 2) := by decide +kernel
theorem dX12_within_137 : decode cX12_within 137 = .ok (.iaload, 1) := by decide +kernel
theorem dX12_within_138 : decode cX12_within 138 = .ok (.ldc 157, 2) := by decide +kernel
theorem dX12_within_140 : decode cX12_within 140 = .ok (.iand, 1) := by decide +kernel
theorem dX12_within_141 : decode cX12_within 141 = .ok (.istore 6, 2) := by decide +kernel
theorem dX12_within_143 : decode cX12_within 143 = .ok (.aload_n 0, 1) := by decide +kernel
theorem dX12_within_144 : decode cX12_within 144 = .ok (.getfield 69, 3) := by decide +kernel
theorem dX12_within_147 : decode cX12_within 147 = .ok (.iload 4, 2) := by decide +kernel
theorem dX12_within_149 : decode cX12_within 149 = .ok (.iaload, 1) := by decide +kernel
theorem dX12_within_150 : decode cX12_within 150 = .ok (.bipush 16, 2) := by decide +kernel
theorem dX12_within_152 : decode cX12_within 152 = .ok (.ishr, 1) := by decide +kernel
theorem dX12_within_153 : decode cX12_within 153 = .ok (.istore 7, 2) := by decide +kernel
theorem dX12_within_155 : decode cX12_within 155 = .ok (.iinc 4 1, 3) := by decide +kernel
theorem dX12_within_158 : decode cX12_within 158 = .ok (.iconst 0, 1) := by decide +kernel
theorem dX12_within_159 : decode cX12_within 159 = .ok (.istore 8, 2) := by decide +kernel
theorem dX12_within_161 : decode cX12_within 161 = .ok (.iload 8, 2) := by decide +kernel
theorem dX12_within_163 : decode cX12_within 163 = .ok (.bipush 16, 2) := by decide +kernel
theorem dX12_within_165 : decode cX12_within 165 = .ok (.if_icmp .ge 157, 3) := by decide +kernel
theorem dX12_within_168 : decode cX12_within 168 = .ok (.iload 8, 2) := by decide +kernel
theorem dX12_within_170 : decode cX12_within 170 = .ok (.iconst 4, 1) := by decide +kernel
theorem dX12_within_171 : decode cX12_within 171 = .ok (.idiv, 1) := by decide +kernel
theorem dX12_within_172 : decode cX12_within 172 = .ok (.istore 9, 2) := by decide +kernel
theorem dX12_within_174 : decode cX12_within 174 = .ok (.iload 8, 2) := by decide +kernel
theorem dX12_within_176 : decode cX12_within 176 = .ok (.iconst 4, 1) := by decide +kernel
theorem dX12_within_177 : decode cX12_within 177 = .ok (.irem, 1) := by decide +kernel
theorem dX12_within_178 : decode cX12_within 178 = .ok (.istore 10, 2) := by decide +kernel
theorem dX12_within_180 : decode cX12_within 180 = .ok (.iload 9, 2) := by decide +kernel
theorem dX12_within_182 : decode cX12_within 182 = .ok (.aload_n 0, 1) := by decide +kernel
theorem dX12_within_183 : decode cX12_within 183 = .ok (.getfield 82, 3) := by decide +kernel
theorem dX12_within_186 : decode cX12_within 186 = .ok (.if_icmp .ge 130, 3) := by decide +kernel
theorem dX12_within_189 : decode cX12_within 189 = .ok (.iload 10, 2) := by decide +kernel
theorem dX12_within_191 : decode cX12_within 191 = .ok (.aload_n 0, 1) := by decide +kernel
theorem dX12_within_192 : decode cX12_within 192 = .ok (.getfield 82, 3) := by decide +kernel
theorem dX12_within_195 : decode cX12_within 195 = .ok (.if_icmp .ge 121, 3) := by decide +kernel
theorem dX12_within_198 : decode cX12_within 198 = .ok (.aload_n 0, 1) := by decide +kernel
theorem dX12_within_199 : decode cX12_within 199 = .ok (.getfield 19, 3) := by decide +kernel
theorem dX12_within_202 : decode cX12_within 202 = .ok (.iload_n 1, 1) := by decide +kernel
theorem dX12_within_203 : decode cX12_within 203 = .ok (.iload 6, 2) := by decide +kernel
theorem dX12_within_205 : decode cX12_within 205 = .ok (.iload 7, 2) := by decide +kernel
theorem dX12_within_207 : decode cX12_within 207 = .ok (.iload 9, 2) := by decide +kernel
theorem dX12_within_209 : decode cX12_within 209 = .ok (.iload 10, 2) := by decide +kernel
theorem dX12_within_211 : decode cX12_within 211 = .ok (.invokestatic 153, 3) := by decide +kernel
theorem dX12_within_214 : decode cX12_within 214 = .ok (.ifCond .ne 6, 3) := by decide +kernel
theorem dX12_within_217 : decode cX12_within 217 = .ok (.goto 99, 3) := by decide +kernel
theorem dX12_within_220 : decode cX12_within 220 = .ok (.aload_n 0, 1) := by decide +kernel
theorem dX12_within_221 : decode cX12_within 221 = .ok (.getfield 19, 3) := by decide +kernel
theorem dX12_within_224 : decode cX12_within 224 = .ok (.iload_n 2, 1) := by decide +kernel
theorem dX12_within_225 : decode cX12_within 225 = .ok (.iload 6, 2) := by decide +kernel
theorem dX12_within_227 : decode cX12_within 227 = .ok (.iload 7, 2) := by decide +kernel
theorem dX12_within_229 : decode cX12_within 229 = .ok (.iload 9, 2) := by decide +kernel
theorem dX12_within_231 : decode cX12_within 231 = .ok (.iload 10, 2) := by decide +kernel
theorem dX12_within_233 : decode cX12_within 233 = .ok (.invokestatic 153, 3) := by decide +kernel
theorem dX12_within_236 : decode cX12_within 236 = .ok (.ifCond .ne 5, 3) := by decide +kernel
theorem dX12_within_239 : decode cX12_within 239 = .ok (.iconst 0, 1) := by decide +kernel
theorem dX12_within_240 : decode cX12_within 240 = .ok (.ireturn, 1) := by decide +kernel
theorem dX12_within_241 : decode cX12_within 241 = .ok (.iload 6, 2) := by decide +kernel
theorem dX12_within_243 : decode cX12_within 243 = .ok (.iload 9, 2) := by decide +kernel
theorem dX12_within_245 : decode cX12_within 245 = .ok (.iload 10, 2) := by decide +kernel
theorem dX12_within_247 : decode cX12_within 247 = .ok (.invokestatic 117, 3) := by decide +kernel
theorem dX12_within_250 : decode cX12_within 250 = .ok (.istore 11, 2) := by decide +kernel
theorem dX12_within_252 : decode cX12_within 252 = .ok (.iload 7, 2) := by decide +kernel
theorem dX12_within_254 : decode cX12_within 254 = .ok (.iload_n 3, 1) := by decide +kernel
theorem dX12_within_255 : decode cX12_within 255 = .ok (.iload 9, 2) := by decide +kernel
theorem dX12_within_257 : decode cX12_within 257 = .ok (.iload 10, 2) := by decide +kernel
theorem dX12_within_259 : decode cX12_within 259 = .ok (.invokestatic 121, 3) := by decide +kernel
theorem dX12_within_262 : decode cX12_within 262 = .ok (.istore 12, 2) := by decide +kernel
theorem dX12_within_264 : decode cX12_within 264 = .ok (.iload 11, 2) := by decide +kernel
theorem dX12_within_266 : decode cX12_within 266 = .ok (.iload 12, 2) := by decide +kernel
theorem dX12_within_268 : decode cX12_within 268 = .ok (.invokestatic 158, 3) := by decide +kernel
theorem dX12_within_271 : decode cX12_within 271 = .ok (.istore 13, 2) := by decide +kernel
theorem dX12_within_273 : decode cX12_within 273 = .ok (.aload_n 0, 1) := by decide +kernel
theorem dX12_within_274 : decode cX12_within 274 = .ok (.getfield 32, 3) := by decide +kernel
theorem dX12_within_277 : decode cX12_within 277 = .ok (.iload 13, 2) := by decide +kernel
theorem dX12_within_279 : decode cX12_within 279 = .ok (.iaload, 1) := by decide +kernel
theorem dX12_within_280 : decode cX12_within 280 = .ok (.aload_n 0, 1) := by decide +kernel
theorem dX12_within_281 : decode cX12_within 281 = .ok (.getfield 161, 3) := by decide +kernel
theorem dX12_within_284 : decode cX12_within 284 = .ok (.if_icmp .eq 32, 3) := by decide +kernel
theorem dX12_within_287 : decode cX12_within 287 = .ok (.aload_n 0, 1) := by decide +kernel
theorem dX12_within_288 : decode cX12_within 288 = .ok (.getfield 32, 3) := by decide +kernel
theorem dX12_within_291 : decode cX12_within 291 = .ok (.iload 13, 2) := by decide +kernel
theorem dX12_within_293 : decode cX12_within 293 = .ok (.aload_n 0, 1) := by decide +kernel
theorem dX12_within_294 : decode cX12_within 294 = .ok (.getfield 161, 3) := by decide +kernel
theorem dX12_within_297 : decode cX12_within 297 = .ok (.iastore, 1) := by decide +kernel
theorem dX12_within_298 : decode cX12_within 298 = .ok (.aload_n 0, 1) := by decide +kernel
theorem dX12_within_299 : decode cX12_within 299 = .ok (.getfield 69, 3) := by decide +kernel
theorem dX12_within_302 : decode cX12_within 302 = .ok (.iload 5, 2) := by decide +kernel
theorem dX12_within_304 : decode cX12_within 304 = .ok (.iload 11, 2) := by decide +kernel
theorem dX12_within_306 : decode cX12_within 306 = .ok (.iload 12, 2) := by decide +kernel
theorem dX12_within_308 : decode cX12_within 308 = .ok (.bipush 16, 2) := by decide +kernel
theorem dX12_within_310 : decode cX12_within 310 = .ok (.ishl, 1) := by decide +kernel
theorem dX12_within_311 : decode cX12_within 311 = .ok (.ior, 1) := by decide +kernel
theorem dX12_within_312 : decode cX12_within 312 = .ok (.iastore, 1) := by decide +kernel
theorem dX12_within_313 : decode cX12_within 313 = .ok (.iinc 5 1, 3) := by decide +kernel
theorem dX12_within_316 : decode cX12_within 316 = .ok (.iinc 8 1, 3) := by decide +kernel
theorem dX12_within_319 : decode cX12_within 319 = .ok (.goto (-158), 3) := by decide +kernel
theorem dX12_within_322 : decode cX12_within 322 = .ok (.goto (-198), 3) := by decide +kernel
theorem dX12_within_325 : decode cX12_within 325 = .ok (.iconst 1, 1) := by decide +kernel
theorem dX12_within_326 : decode cX12_within 326 = .ok (.ireturn, 1) := by decide +kernel
theorem dX12_sheet_0 : decode cX12_sheet 0 = .ok (.aload_n 0, 1) := by decide +kernel
theorem dX12_sheet_1 : decode cX12_sheet 1 = .ok (.iconst 0, 1) := by decide +kernel
theorem dX12_sheet_2 : decode cX12_sheet 2 = .ok (.putfield 72, 3) := by decide +kernel
theorem dX12_sheet_5 : decode cX12_sheet 5 = .ok (.iload_n 1, 1) := by decide +kernel
theorem dX12_sheet_6 : decode cX12_sheet 6 = .ok (.invokestatic 85, 3) := by decide +kernel
theorem dX12_sheet_9 : decode cX12_sheet 9 = .ok (.ifCond .ne 5, 3) := by decide +kernel
theorem dX12_sheet_12 : decode cX12_sheet 12 = .ok (.iconst (-1), 1) := by decide +kernel
theorem dX12_sheet_13 : decode cX12_sheet 13 = .ok (.ireturn, 1) := by decide +kernel
theorem dX12_sheet_14 : decode cX12_sheet 14 = .ok (.iload_n 2, 1) := by decide +kernel
theorem dX12_sheet_15 : decode cX12_sheet 15 = .ok (.invokestatic 89, 3) := by decide +kernel
theorem dX12_sheet_18 : decode cX12_sheet 18 = .ok (.ifCond .eq 9, 3) := by decide +kernel
theorem dX12_sheet_21 : decode cX12_sheet 21 = .ok (.iload_n 3, 1) := by decide +kernel
theorem dX12_sheet_22 : decode cX12_sheet 22 = .ok (.bipush 60, 2) := by decide +kernel
theorem dX12_sheet_24 : decode cX12_sheet 24 = .ok (.if_icmp .le 6, 3) := by decide +kernel
theorem dX12_sheet_27 : decode cX12_sheet 27 = .ok (.bipush (-2), 2) := by decide +kernel
theorem dX12_sheet_29 : decode cX12_sheet 29 = .ok (.ireturn, 1) := by decide +kernel
theorem dX12_sheet_30 : decode cX12_sheet 30 = .ok (.iload_n 3, 1) := by decide +kernel
theorem dX12_sheet_31 : decode cX12_sheet 31 = .ok (.ifCond .ge 9, 3) := by decide +kernel
theorem dX12_sheet_34 : decode cX12_sheet 34 = .ok (.aload_n 0, 1) := by decide +kernel
theorem dX12_sheet_35 : decode cX12_sheet 35 = .ok (.iconst 4, 1) := by decide +kernel
theorem dX12_sheet_36 : decode cX12_sheet 36 = .ok (.invokevirtual 92, 3) := by decide +kernel
theorem dX12_sheet_39 : decode cX12_sheet 39 = .ok (.ireturn, 1) := by decide +kernel
theorem dX12_sheet_40 : decode cX12_sheet 40 = .ok (.aload_n 0, 1) := by decide +kernel
theorem dX12_sheet_41 : decode cX12_sheet 41 = .ok (.getfield 9, 3) := by decide +kernel
theorem dX12_sheet_44 : decode cX12_sheet 44 = .ok (.iload_n 1, 1) := by decide +kernel
theorem dX12_sheet_45 : decode cX12_sheet 45 = .ok (.iload_n 2, 1) := by decide +kernel
theorem dX12_sheet_46 : decode cX12_sheet 46 = .ok (.iastore, 1) := by decide +kernel
theorem dX12_sheet_47 : decode cX12_sheet 47 = .ok (.aload_n 0, 1) := by decide +kernel
theorem dX12_sheet_48 : decode cX12_sheet 48 = .ok (.getfield 13, 3) := by decide +kernel
theorem dX12_sheet_51 : decode cX12_sheet 51 = .ok (.iload_n 1, 1) := by decide +kernel
theorem dX12_sheet_52 : decode cX12_sheet 52 = .ok (.iload_n 3, 1) := by decide +kernel
theorem dX12_sheet_53 : decode cX12_sheet 53 = .ok (.iastore, 1) := by decide +kernel
theorem dX12_sheet_54 : decode cX12_sheet 54 = .ok (.iconst 0, 1) := by decide +kernel
theorem dX12_sheet_55 : decode cX12_sheet 55 = .ok (.istore 4, 2) := by decide +kernel
theorem dX12_sheet_57 : decode cX12_sheet 57 = .ok (.iload 4, 2) := by decide +kernel
theorem dX12_sheet_59 : decode cX12_sheet 59 = .ok (.bipush 60, 2) := by decide +kernel
theorem dX12_sheet_61 : decode cX12_sheet 61 = .ok (.if_icmp .ge 22, 3) := by decide +kernel
theorem dX12_sheet_64 : decode cX12_sheet 64 = .ok (.aload_n 0, 1) := by decide +kernel
theorem dX12_sheet_65 : decode cX12_sheet 65 = .ok (.getfield 16, 3) := by decide +kernel
theorem dX12_sheet_68 : decode cX12_sheet 68 = .ok (.bipush 60, 2) := by decide +kernel
theorem dX12_sheet_70 : decode cX12_sheet 70 = .ok (.iload_n 1, 1) := by decide +kernel
theorem dX12_sheet_71 : decode cX12_sheet 71 = .ok (.imul, 1) := by decide +kernel
theorem dX12_sheet_72 : decode cX12_sheet 72 = .ok (.iload 4, 2) := by decide +kernel
theorem dX12_sheet_74 : decode cX12_sheet 74 = .ok (.iadd, 1) := by decide +kernel
theorem dX12_sheet_75 : decode cX12_sheet 75 = .ok (.iconst 0, 1) := by decide +kernel
theorem dX12_sheet_76 : decode cX12_sheet 76 = .ok (.iastore, 1) := by decide +kernel
theorem dX12_sheet_77 : decode cX12_sheet 77 = .ok (.iinc 4 1, 3) := by decide +kernel
theorem dX12_sheet_80 : decode cX12_sheet 80 = .ok (.goto (-23), 3) := by decide +kernel
theorem dX12_sheet_83 : decode cX12_sheet 83 = .ok (.iconst 1, 1) := by decide +kernel
theorem dX12_sheet_84 : decode cX12_sheet 84 = .ok (.ireturn, 1) := by decide +kernel
theorem dX12_lose_0 : decode cX12_lose 0 = .ok (.iload_n 1, 1) := by decide +kernel
theorem dX12_lose_1 : decode cX12_lose 1 = .ok (.invokestatic 85, 3) := by decide +kernel
theorem dX12_lose_4 : decode cX12_lose 4 = .ok (.ifCond .ne 5, 3) := by decide +kernel
theorem dX12_lose_7 : decode cX12_lose 7 = .ok (.iconst (-1), 1) := by decide +kernel
theorem dX12_lose_8 : decode cX12_lose 8 = .ok (.ireturn, 1) := by decide +kernel
theorem dX12_lose_9 : decode cX12_lose 9 = .ok (.aload_n 0, 1) := by decide +kernel
theorem dX12_lose_10 : decode cX12_lose 10 = .ok (.getfield 9, 3) := by decide +kernel
theorem dX12_lose_13 : decode cX12_lose 13 = .ok (.iload_n 1, 1) := by decide +kernel
theorem dX12_lose_14 : decode cX12_lose 14 = .ok (.iaload, 1) := by decide +kernel
theorem dX12_lose_15 : decode cX12_lose 15 = .ok (.bipush (-9), 2) := by decide +kernel
theorem dX12_lose_17 : decode cX12_lose 17 = .ok (.if_icmp .ne 7, 3) := by decide +kernel
theorem dX12_lose_20 : decode cX12_lose 20 = .ok (.iconst 0, 1) := by decide +kernel
theorem dX12_lose_21 : decode cX12_lose 21 = .ok (.goto 4, 3) := by decide +kernel
theorem dX12_lose_24 : decode cX12_lose 24 = .ok (.iconst 1, 1) := by decide +kernel
theorem dX12_lose_25 : decode cX12_lose 25 = .ok (.istore_n 2, 1) := by decide +kernel
theorem dX12_lose_26 : decode cX12_lose 26 = .ok (.aload_n 0, 1) := by decide +kernel
theorem dX12_lose_27 : decode cX12_lose 27 = .ok (.getfield 9, 3) := by decide +kernel
theorem dX12_lose_30 : decode cX12_lose 30 = .ok (.iload_n 1, 1) := by decide +kernel
theorem dX12_lose_31 : decode cX12_lose 31 = .ok (.bipush (-9), 2) := by decide +kernel
theorem dX12_lose_33 : decode cX12_lose 33 = .ok (.iastore, 1) := by decide +kernel
theorem dX12_lose_34 : decode cX12_lose 34 = .ok (.iload_n 2, 1) := by decide +kernel
theorem dX12_lose_35 : decode cX12_lose 35 = .ok (.ireturn, 1) := by decide +kernel
theorem dX12_put_0 : decode cX12_put 0 = .ok (.aload_n 0, 1) := by decide +kernel
theorem dX12_put_1 : decode cX12_put 1 = .ok (.iconst 0, 1) := by decide +kernel
theorem dX12_put_2 : decode cX12_put 2 = .ok (.putfield 72, 3) := by decide +kernel
theorem dX12_put_5 : decode cX12_put 5 = .ok (.iload_n 1, 1) := by decide +kernel
theorem dX12_put_6 : decode cX12_put 6 = .ok (.invokestatic 85, 3) := by decide +kernel
theorem dX12_put_9 : decode cX12_put 9 = .ok (.ifCond .ne 5, 3) := by decide +kernel
theorem dX12_put_12 : decode cX12_put 12 = .ok (.iconst (-1), 1) := by decide +kernel
theorem dX12_put_13 : decode cX12_put 13 = .ok (.ireturn, 1) := by decide +kernel
theorem dX12_put_14 : decode cX12_put 14 = .ok (.aload_n 0, 1) := by decide +kernel
theorem dX12_put_15 : decode cX12_put 15 = .ok (.getfield 9, 3) := by decide +kernel
theorem dX12_put_18 : decode cX12_put 18 = .ok (.iload_n 1, 1) := by decide +kernel
theorem dX12_put_19 : decode cX12_put 19 = .ok (.iaload, 1) := by decide +kernel
theorem dX12_put_20 : decode cX12_put 20 = .ok (.bipush (-9), 2) := by decide +kernel
theorem dX12_put_22 : decode cX12_put 22 = .ok (.if_icmp .ne 9, 3) := by decide +kernel
theorem dX12_put_25 : decode cX12_put 25 = .ok (.aload_n 0, 1) := by decide +kernel
theorem dX12_put_26 : decode cX12_put 26 = .ok (.iconst 1, 1) := by decide +kernel
theorem dX12_put_27 : decode cX12_put 27 = .ok (.invokevirtual 92, 3) := by decide +kernel
theorem dX12_put_30 : decode cX12_put 30 = .ok (.ireturn, 1) := by decide +kernel
theorem dX12_put_31 : decode cX12_put 31 = .ok (.iload_n 2, 1) := by decide +kernel
theorem dX12_put_32 : decode cX12_put 32 = .ok (.iconst 0, 1) := by decide +kernel
theorem dX12_put_33 : decode cX12_put 33 = .ok (.aload_n 0, 1) := by decide +kernel
theorem dX12_put_34 : decode cX12_put 34 = .ok (.getfield 13, 3) := by decide +kernel
theorem dX12_put_37 : decode cX12_put 37 = .ok (.iload_n 1, 1) := by decide +kernel
theorem dX12_put_38 : decode cX12_put 38 = .ok (.iaload, 1) := by decide +kernel
theorem dX12_put_39 : decode cX12_put 39 = .ok (.iconst 1, 1) := by decide +kernel
theorem dX12_put_40 : decode cX12_put 40 = .ok (.isub, 1) := by decide +kernel
theorem dX12_put_41 : decode cX12_put 41 = .ok (.invokestatic 78, 3) := by decide +kernel
theorem dX12_put_44 : decode cX12_put 44 = .ok (.ifCond .ne 9, 3) := by decide +kernel
theorem dX12_put_47 : decode cX12_put 47 = .ok (.aload_n 0, 1) := by decide +kernel
theorem dX12_put_48 : decode cX12_put 48 = .ok (.iconst 3, 1) := by decide +kernel
theorem dX12_put_49 : decode cX12_put 49 = .ok (.invokevirtual 92, 3) := by decide +kernel
theorem dX12_put_52 : decode cX12_put 52 = .ok (.ireturn, 1) := by decide +kernel
theorem dX12_put_53 : decode cX12_put 53 = .ok (.aload_n 0, 1) := by decide +kernel
theorem dX12_put_54 : decode cX12_put 54 = .ok (.getfield 16, 3) := by decide +kernel
theorem dX12_put_57 : decode cX12_put 57 = .ok (.bipush 60, 2) := by decide +kernel
theorem dX12_put_59 : decode cX12_put 59 = .ok (.iload_n 1, 1) := by decide +kernel
theorem dX12_put_60 : decode cX12_put 60 = .ok (.imul, 1) := by decide +kernel
theorem dX12_put_61 : decode cX12_put 61 = .ok (.iload_n 2, 1) := by decide +kernel
theorem dX12_put_62 : decode cX12_put 62 = .ok (.iadd, 1) := by decide +kernel
theorem dX12_put_63 : decode cX12_put 63 = .ok (.aload_n 0, 1) := by decide +kernel
theorem dX12_put_64 : decode cX12_put 64 = .ok (.getfield 9, 3) := by decide +kernel
theorem dX12_put_67 : decode cX12_put 67 = .ok (.iload_n 1, 1) := by decide +kernel
theorem dX12_put_68 : decode cX12_put 68 = .ok (.iaload, 1) := by decide +kernel
theorem dX12_put_69 : decode cX12_put 69 = .ok (.ifCond .ne 8, 3) := by decide +kernel
theorem dX12_put_72 : decode cX12_put 72 = .ok (.iload_n 3, 1) := by decide +kernel
theorem dX12_put_73 : decode cX12_put 73 = .ok (.i2b, 1) := by decide +kernel
theorem dX12_put_74 : decode cX12_put 74 = .ok (.goto 19, 3) := by decide +kernel
theorem dX12_put_77 : decode cX12_put 77 = .ok (.aload_n 0, 1) := by decide +kernel
theorem dX12_put_78 : decode cX12_put 78 = .ok (.getfield 9, 3) := by decide +kernel
theorem dX12_put_81 : decode cX12_put 81 = .ok (.iload_n 1, 1) := by decide +kernel
theorem dX12_put_82 : decode cX12_put 82 = .ok (.iaload, 1) := by decide +kernel
theorem dX12_put_83 : decode cX12_put 83 = .ok (.iconst 1, 1) := by decide +kernel
theorem dX12_put_84 : decode cX12_put 84 = .ok (.if_icmp .ne 8, 3) := by decide +kernel
theorem dX12_put_87 : decode cX12_put 87 = .ok (.iload_n 3, 1) := by decide +kernel
theorem dX12_put_88 : decode cX12_put 88 = .ok (.i2s, 1) := by decide +kernel
theorem dX12_put_89 : decode cX12_put 89 = .ok (.goto 4, 3) := by decide +kernel
theorem dX12_put_92 : decode cX12_put 92 = .ok (.iload_n 3, 1) := by decide +kernel
theorem dX12_put_93 : decode cX12_put 93 = .ok (.iastore, 1) := by decide +kernel
theorem dX12_put_94 : decode cX12_put 94 = .ok (.iconst 1, 1) := by decide +kernel
theorem dX12_put_95 : decode cX12_put 95 = .ok (.ireturn, 1) := by decide +kernel
theorem dX12_cell_0 : decode cX12_cell 0 = .ok (.aload_n 0, 1) := by decide +kernel
theorem dX12_cell_1 : decode cX12_cell 1 = .ok (.iconst 0, 1) := by decide +kernel
theorem dX12_cell_2 : decode cX12_cell 2 = .ok (.putfield 72, 3) := by decide +kernel
theorem dX12_cell_5 : decode cX12_cell 5 = .ok (.iload_n 1, 1) := by decide +kernel
theorem dX12_cell_6 : decode cX12_cell 6 = .ok (.invokestatic 85, 3) := by decide +kernel
theorem dX12_cell_9 : decode cX12_cell 9 = .ok (.ifCond .eq 10, 3) := by decide +kernel
theorem dX12_cell_12 : decode cX12_cell 12 = .ok (.iload_n 3, 1) := by decide +kernel
theorem dX12_cell_13 : decode cX12_cell 13 = .ok (.invokestatic 89, 3) := by decide +kernel
theorem dX12_cell_16 : decode cX12_cell 16 = .ok (.ifCond .ne 7, 3) := by decide +kernel
theorem dX12_cell_19 : decode cX12_cell 19 = .ok (.ldc2_w 76, 3) := by decide +kernel
theorem dX12_cell_22 : decode cX12_cell 22 = .ok (.lreturn, 1) := by decide +kernel
theorem dX12_cell_23 : decode cX12_cell 23 = .ok (.aload_n 0, 1) := by decide +kernel
theorem dX12_cell_24 : decode cX12_cell 24 = .ok (.getfield 9, 3) := by decide +kernel
theorem dX12_cell_27 : decode cX12_cell 27 = .ok (.iload_n 1, 1) := by decide +kernel
theorem dX12_cell_28 : decode cX12_cell 28 = .ok (.iaload, 1) := by decide +kernel
theorem dX12_cell_29 : decode cX12_cell 29 = .ok (.bipush (-9), 2) := by decide +kernel
theorem dX12_cell_31 : decode cX12_cell 31 = .ok (.if_icmp .eq 19, 3) := by decide +kernel
theorem dX12_cell_34 : decode cX12_cell 34 = .ok (.aload_n 0, 1) := by decide +kernel
theorem dX12_cell_35 : decode cX12_cell 35 = .ok (.getfield 9, 3) := by decide +kernel
theorem dX12_cell_38 : decode cX12_cell 38 = .ok (.iload_n 1, 1) := by decide +kernel
theorem dX12_cell_39 : decode cX12_cell 39 = .ok (.iaload, 1) := by decide +kernel
theorem dX12_cell_40 : decode cX12_cell 40 = .ok (.iload_n 3, 1) := by decide +kernel
theorem dX12_cell_41 : decode cX12_cell 41 = .ok (.if_icmp .eq 9, 3) := by decide +kernel
theorem dX12_cell_44 : decode cX12_cell 44 = .ok (.aload_n 0, 1) := by decide +kernel
theorem dX12_cell_45 : decode cX12_cell 45 = .ok (.iconst 2, 1) := by decide +kernel
theorem dX12_cell_46 : decode cX12_cell 46 = .ok (.invokevirtual 226, 3) := by decide +kernel
theorem dX12_cell_49 : decode cX12_cell 49 = .ok (.lreturn, 1) := by decide +kernel
theorem dX12_cell_50 : decode cX12_cell 50 = .ok (.aload_n 0, 1) := by decide +kernel
theorem dX12_cell_51 : decode cX12_cell 51 = .ok (.getfield 9, 3) := by decide +kernel
theorem dX12_cell_54 : decode cX12_cell 54 = .ok (.iload_n 1, 1) := by decide +kernel
theorem dX12_cell_55 : decode cX12_cell 55 = .ok (.iaload, 1) := by decide +kernel
theorem dX12_cell_56 : decode cX12_cell 56 = .ok (.bipush (-9), 2) := by decide +kernel
theorem dX12_cell_58 : decode cX12_cell 58 = .ok (.if_icmp .ne 9, 3) := by decide +kernel
theorem dX12_cell_61 : decode cX12_cell 61 = .ok (.aload_n 0, 1) := by decide +kernel
theorem dX12_cell_62 : decode cX12_cell 62 = .ok (.iconst 1, 1) := by decide +kernel
theorem dX12_cell_63 : decode cX12_cell 63 = .ok (.invokevirtual 226, 3) := by decide +kernel
theorem dX12_cell_66 : decode cX12_cell 66 = .ok (.lreturn, 1) := by decide +kernel
theorem dX12_cell_67 : decode cX12_cell 67 = .ok (.iload_n 2, 1) := by decide +kernel
theorem dX12_cell_68 : decode cX12_cell 68 = .ok (.iconst 0, 1) := by decide +kernel
theorem dX12_cell_69 : decode cX12_cell 69 = .ok (.aload_n 0, 1) := by decide +kernel
theorem dX12_cell_70 : decode cX12_cell 70 = .ok (.getfield 13, 3) := by decide +kernel
theorem dX12_cell_73 : decode cX12_cell 73 = .ok (.iload_n 1, 1) := by decide +kernel
theorem dX12_cell_74 : decode cX12_cell 74 = .ok (.iaload, 1) := by decide +kernel
theorem dX12_cell_75 : decode cX12_cell 75 = .ok (.iconst 1, 1) := by decide +kernel
theorem dX12_cell_76 : decode cX12_cell 76 = .ok (.isub, 1) := by decide +kernel
theorem dX12_cell_77 : decode cX12_cell 77 = .ok (.invokestatic 78, 3) := by decide +kernel
theorem dX12_cell_80 : decode cX12_cell 80 = .ok (.ifCond .ne 9, 3) := by decide +kernel
theorem dX12_cell_83 : decode cX12_cell 83 = .ok (.aload_n 0, 1) := by decide +kernel
theorem dX12_cell_84 : decode cX12_cell 84 = .ok (.iconst 3, 1) := by decide +kernel
theorem dX12_cell_85 : decode cX12_cell 85 = .ok (.invokevirtual 226, 3) := by decide +kernel
theorem dX12_cell_88 : decode cX12_cell 88 = .ok (.lreturn, 1) := by decide +kernel
theorem dX12_cell_89 : decode cX12_cell 89 = .ok (.aload_n 0, 1) := by decide +kernel
theorem dX12_cell_90 : decode cX12_cell 90 = .ok (.getfield 16, 3) := by decide +kernel
theorem dX12_cell_93 : decode cX12_cell 93 = .ok (.bipush 60, 2) := by decide +kernel
theorem dX12_cell_95 : decode cX12_cell 95 = .ok (.iload_n 1, 1) := by decide +kernel
theorem dX12_cell_96 : decode cX12_cell 96 = .ok (.imul, 1) := by decide +kernel
theorem dX12_cell_97 : decode cX12_cell 97 = .ok (.iload_n 2, 1) := by decide +kernel
theorem dX12_cell_98 : decode cX12_cell 98 = .ok (.iadd, 1) := by decide +kernel
theorem dX12_cell_99 : decode cX12_cell 99 = .ok (.iaload, 1) := by decide +kernel
theorem dX12_cell_100 : decode cX12_cell 100 = .ok (.i2l, 1) := by decide +kernel
theorem dX12_cell_101 : decode cX12_cell 101 = .ok (.lreturn, 1) := by decide +kernel
theorem dX12_copy_0 : decode cX12_copy 0 = .ok (.aload_n 0, 1) := by decide +kernel
theorem dX12_copy_1 : decode cX12_copy 1 = .ok (.iconst 0, 1) := by decide +kernel
theorem dX12_copy_2 : decode cX12_copy 2 = .ok (.putfield 72, 3) := by decide +kernel
theorem dX12_copy_5 : decode cX12_copy 5 = .ok (.iload_n 1, 1) := by decide +kernel
theorem dX12_copy_6 : decode cX12_copy 6 = .ok (.invokestatic 85, 3) := by decide +kernel
theorem dX12_copy_9 : decode cX12_copy 9 = .ok (.ifCond .eq 10, 3) := by decide +kernel
theorem dX12_copy_12 : decode cX12_copy 12 = .ok (.iload_n 3, 1) := by decide +kernel
theorem dX12_copy_13 : decode cX12_copy 13 = .ok (.invokestatic 85, 3) := by decide +kernel
theorem dX12_copy_16 : decode cX12_copy 16 = .ok (.ifCond .ne 5, 3) := by decide +kernel
theorem dX12_copy_19 : decode cX12_copy 19 = .ok (.iconst (-1), 1) := by decide +kernel
theorem dX12_copy_20 : decode cX12_copy 20 = .ok (.ireturn, 1) := by decide +kernel
theorem dX12_copy_21 : decode cX12_copy 21 = .ok (.aload_n 0, 1) := by decide +kernel
theorem dX12_copy_22 : decode cX12_copy 22 = .ok (.getfield 9, 3) := by decide +kernel
theorem dX12_copy_25 : decode cX12_copy 25 = .ok (.iload_n 1, 1) := by decide +kernel
theorem dX12_copy_26 : decode cX12_copy 26 = .ok (.iaload, 1) := by decide +kernel
theorem dX12_copy_27 : decode cX12_copy 27 = .ok (.bipush (-9), 2) := by decide +kernel
theorem dX12_copy_29 : decode cX12_copy 29 = .ok (.if_icmp .eq 14, 3) := by decide +kernel
theorem dX12_copy_32 : decode cX12_copy 32 = .ok (.aload_n 0, 1) := by decide +kernel
theorem dX12_copy_33 : decode cX12_copy 33 = .ok (.getfield 9, 3) := by decide +kernel
theorem dX12_copy_36 : decode cX12_copy 36 = .ok (.iload_n 3, 1) := by decide +kernel
theorem dX12_copy_37 : decode cX12_copy 37 = .ok (.iaload, 1) := by decide +kernel
theorem dX12_copy_38 : decode cX12_copy 38 = .ok (.bipush (-9), 2) := by decide +kernel
theorem dX12_copy_40 : decode cX12_copy 40 = .ok (.if_icmp .ne 9, 3) := by decide +kernel
theorem dX12_copy_43 : decode cX12_copy 43 = .ok (.aload_n 0, 1) := by decide +kernel
theorem dX12_copy_44 : decode cX12_copy 44 = .ok (.iconst 1, 1) := by decide +kernel
theorem dX12_copy_45 : decode cX12_copy 45 = .ok (.invokevirtual 92, 3) := by decide +kernel
theorem dX12_copy_48 : decode cX12_copy 48 = .ok (.ireturn, 1) := by decide +kernel
theorem dX12_copy_49 : decode cX12_copy 49 = .ok (.aload_n 0, 1) := by decide +kernel
theorem dX12_copy_50 : decode cX12_copy 50 = .ok (.getfield 9, 3) := by decide +kernel
theorem dX12_copy_53 : decode cX12_copy 53 = .ok (.iload_n 1, 1) := by decide +kernel
theorem dX12_copy_54 : decode cX12_copy 54 = .ok (.iaload, 1) := by decide +kernel
theorem dX12_copy_55 : decode cX12_copy 55 = .ok (.aload_n 0, 1) := by decide +kernel
theorem dX12_copy_56 : decode cX12_copy 56 = .ok (.getfield 9, 3) := by decide +kernel
theorem dX12_copy_59 : decode cX12_copy 59 = .ok (.iload_n 3, 1) := by decide +kernel
theorem dX12_copy_60 : decode cX12_copy 60 = .ok (.iaload, 1) := by decide +kernel
theorem dX12_copy_61 : decode cX12_copy 61 = .ok (.if_icmp .eq 9, 3) := by decide +kernel
theorem dX12_copy_64 : decode cX12_copy 64 = .ok (.aload_n 0, 1) := by decide +kernel
theorem dX12_copy_65 : decode cX12_copy 65 = .ok (.iconst 2, 1) := by decide +kernel
theorem dX12_copy_66 : decode cX12_copy 66 = .ok (.invokevirtual 92, 3) := by decide +kernel
theorem dX12_copy_69 : decode cX12_copy 69 = .ok (.ireturn, 1) := by decide +kernel
theorem dX12_copy_70 : decode cX12_copy 70 = .ok (.iload_n 2, 1) := by decide +kernel
theorem dX12_copy_71 : decode cX12_copy 71 = .ok (.ifCond .lt 38, 3) := by decide +kernel
theorem dX12_copy_74 : decode cX12_copy 74 = .ok (.iload 4, 2) := by decide +kernel
theorem dX12_copy_76 : decode cX12_copy 76 = .ok (.ifCond .lt 33, 3) := by decide +kernel
theorem dX12_copy_79 : decode cX12_copy 79 = .ok (.iload 5, 2) := by decide +kernel
theorem dX12_copy_81 : decode cX12_copy 81 = .ok (.ifCond .lt 28, 3) := by decide +kernel
theorem dX12_copy_84 : decode cX12_copy 84 = .ok (.iload_n 2, 1) := by decide +kernel
theorem dX12_copy_85 : decode cX12_copy 85 = .ok (.aload_n 0, 1) := by decide +kernel
theorem dX12_copy_86 : decode cX12_copy 86 = .ok (.getfield 13, 3) := by decide +kernel
theorem dX12_copy_89 : decode cX12_copy 89 = .ok (.iload_n 1, 1) := by decide +kernel
theorem dX12_copy_90 : decode cX12_copy 90 = .ok (.iaload, 1) := by decide +kernel
theorem dX12_copy_91 : decode cX12_copy 91 = .ok (.if_icmp .gt 18, 3) := by decide +kernel
theorem dX12_copy_94 : decode cX12_copy 94 = .ok (.iload 4, 2) := by decide +kernel
theorem dX12_copy_96 : decode cX12_copy 96 = .ok (.aload_n 0, 1) := by decide +kernel
theorem dX12_copy_97 : decode cX12_copy 97 = .ok (.getfield 13, 3) := by decide +kernel
theorem dX12_copy_100 : decode cX12_copy 100 = .ok (.iload_n 3, 1) := by decide +kernel
theorem dX12_copy_101 : decode cX12_copy 101 = .ok (.iaload, 1) := by decide +kernel
theorem dX12_copy_102 : decode cX12_copy 102 = .ok (.if_icmp .gt 7, 3) := by decide +kernel
theorem dX12_copy_105 : decode cX12_copy 105 = .ok (.iconst 1, 1) := by decide +kernel
theorem dX12_copy_106 : decode cX12_copy 106 = .ok (.goto 4, 3) := by decide +kernel
theorem dX12_copy_109 : decode cX12_copy 109 = .ok (.iconst 0, 1) := by decide +kernel
theorem dX12_copy_110 : decode cX12_copy 110 = .ok (.istore 6, 2) := by decide +kernel
theorem dX12_copy_112 : decode cX12_copy 112 = .ok (.iload 6, 2) := by decide +kernel
theorem dX12_copy_114 : decode cX12_copy 114 = .ok (.ifCond .eq 30, 3) := by decide +kernel
theorem dX12_copy_117 : decode cX12_copy 117 = .ok (.iload 5, 2) := by decide +kernel
theorem dX12_copy_119 : decode cX12_copy 119 = .ok (.aload_n 0, 1) := by decide +kernel
theorem dX12_copy_120 : decode cX12_copy 120 = .ok (.getfield 13, 3) := by decide +kernel
theorem dX12_copy_123 : decode cX12_copy 123 = .ok (.iload_n 1, 1) := by decide +kernel
theorem dX12_copy_124 : decode cX12_copy 124 = .ok (.iaload, 1) := by decide +kernel
theorem dX12_copy_125 : decode cX12_copy 125 = .ok (.iload_n 2, 1) := by decide +kernel
theorem dX12_copy_126 : decode cX12_copy 126 = .ok (.isub, 1) := by decide +kernel
theorem dX12_copy_127 : decode cX12_copy 127 = .ok (.if_icmp .gt 17, 3) := by decide +kernel
theorem dX12_copy_130 : decode cX12_copy 130 = .ok (.iload 5, 2) := by decide +kernel
theorem dX12_copy_132 : decode cX12_copy 132 = .ok (.aload_n 0, 1) := by decide +kernel
theorem dX12_copy_133 : decode cX12_copy 133 = .ok (.getfield 13, 3) := by decide +kernel
theorem dX12_copy_136 : decode cX12_copy 136 = .ok (.iload_n 3, 1) := by decide +kernel
theorem dX12_copy_137 : decode cX12_copy 137 = .ok (.iaload, 1) := by decide +kernel
theorem dX12_copy_138 : decode cX12_copy 138 = .ok (.iload 4, 2) := by decide +kernel
theorem dX12_copy_140 : decode cX12_copy 140 = .ok (.isub, 1) := by decide +kernel
theorem dX12_copy_141 : decode cX12_copy 141 = .ok (.if_icmp .le 9, 3) := by decide +kernel
theorem dX12_copy_144 : decode cX12_copy 144 = .ok (.aload_n 0, 1) := by decide +kernel
theorem dX12_copy_145 : decode cX12_copy 145 = .ok (.iconst 3, 1) := by decide +kernel
theorem dX12_copy_146 : decode cX12_copy 146 = .ok (.invokevirtual 92, 3) := by decide +kernel
theorem dX12_copy_149 : decode cX12_copy 149 = .ok (.ireturn, 1) := by decide +kernel
theorem dX12_copy_150 : decode cX12_copy 150 = .ok (.iload_n 2, 1) := by decide +kernel
theorem dX12_copy_151 : decode cX12_copy 151 = .ok (.iload 4, 2) := by decide +kernel
theorem dX12_copy_153 : decode cX12_copy 153 = .ok (.if_icmp .ge 7, 3) := by decide +kernel
theorem dX12_copy_156 : decode cX12_copy 156 = .ok (.iconst 1, 1) := by decide +kernel
theorem dX12_copy_157 : decode cX12_copy 157 = .ok (.goto 4, 3) := by decide +kernel
theorem dX12_copy_160 : decode cX12_copy 160 = .ok (.iconst 0, 1) := by decide +kernel
theorem dX12_copy_161 : decode cX12_copy 161 = .ok (.istore 7, 2) := by decide +kernel
theorem dX12_copy_163 : decode cX12_copy 163 = .ok (.iconst 0, 1) := by decide +kernel
theorem dX12_copy_164 : decode cX12_copy 164 = .ok (.istore 8, 2) := by decide +kernel
theorem dX12_copy_166 : decode cX12_copy 166 = .ok (.iload 8, 2) := by decide +kernel
theorem dX12_copy_168 : decode cX12_copy 168 = .ok (.iload 5, 2) := by decide +kernel
theorem dX12_copy_170 : decode cX12_copy 170 = .ok (.if_icmp .ge 57, 3) := by decide +kernel
theorem dX12_copy_173 : decode cX12_copy 173 = .ok (.iload 7, 2) := by decide +kernel
theorem dX12_copy_175 : decode cX12_copy 175 = .ok (.ifCond .eq 13, 3) := by decide +kernel
theorem dX12_copy_178 : decode cX12_copy 178 = .ok (.iload 5, 2) := by decide +kernel
theorem dX12_copy_180 : decode cX12_copy 180 = .ok (.iconst 1, 1) := by decide +kernel
theorem dX12_copy_181 : decode cX12_copy 181 = .ok (.isub, 1) := by decide +kernel
theorem dX12_copy_182 : decode cX12_copy 182 = .ok (.iload 8, 2) := by decide +kernel
theorem dX12_copy_184 : decode cX12_copy 184 = .ok (.isub, 1) := by decide +kernel
theorem dX12_copy_185 : decode cX12_copy 185 = .ok (.goto 5, 3) := by decide +kernel
theorem dX12_copy_188 : decode cX12_copy 188 = .ok (.iload 8, 2) := by decide +kernel
theorem dX12_copy_190 : decode cX12_copy 190 = .ok (.istore 9, 2) := by decide +kernel
theorem dX12_copy_192 : decode cX12_copy 192 = .ok (.aload_n 0, 1) := by decide +kernel
theorem dX12_copy_193 : decode cX12_copy 193 = .ok (.getfield 16, 3) := by decide +kernel
theorem dX12_copy_196 : decode cX12_copy 196 = .ok (.bipush 60, 2) := by decide +kernel
theorem dX12_copy_198 : decode cX12_copy 198 = .ok (.iload_n 3, 1) := by decide +kernel
theorem dX12_copy_199 : decode cX12_copy 199 = .ok (.imul, 1) := by decide +kernel
theorem dX12_copy_200 : decode cX12_copy 200 = .ok (.iload 4, 2) := by decide +kernel
theorem dX12_copy_202 : decode cX12_copy 202 = .ok (.iadd, 1) := by decide +kernel
theorem dX12_copy_203 : decode cX12_copy 203 = .ok (.iload 9, 2) := by decide +kernel
theorem dX12_copy_205 : decode cX12_copy 205 = .ok (.iadd, 1) := by decide +kernel
theorem dX12_copy_206 : decode cX12_copy 206 = .ok (.aload_n 0, 1) := by decide +kernel
theorem dX12_copy_207 : decode cX12_copy 207 = .ok (.getfield 16, 3) := by decide +kernel
theorem dX12_copy_210 : decode cX12_copy 210 = .ok (.bipush 60, 2) := by decide +kernel
theorem dX12_copy_212 : decode cX12_copy 212 = .ok (.iload_n 1, 1) := by decide +kernel
theorem dX12_copy_213 : decode cX12_copy 213 = .ok (.imul, 1) := by decide +kernel
theorem dX12_copy_214 : decode cX12_copy 214 = .ok (.iload_n 2, 1) := by decide +kernel
theorem dX12_copy_215 : decode cX12_copy 215 = .ok (.iadd, 1) := by decide +kernel
theorem dX12_copy_216 : decode cX12_copy 216 = .ok (.iload 9, 2) := by decide +kernel
theorem dX12_copy_218 : decode cX12_copy 218 = .ok (.iadd, 1) := by decide +kernel
theorem dX12_copy_219 : decode cX12_copy 219 = .ok (.iaload, 1) := by decide +kernel
theorem dX12_copy_220 : decode cX12_copy 220 = .ok (.iastore, 1) := by decide +kernel
theorem dX12_copy_221 : decode cX12_copy 221 = .ok (.iinc 8 1, 3) := by decide +kernel
theorem dX12_copy_224 : decode cX12_copy 224 = .ok (.goto (-58), 3) := by decide +kernel
theorem dX12_copy_227 : decode cX12_copy 227 = .ok (.iload 5, 2) := by decide +kernel
theorem dX12_copy_229 : decode cX12_copy 229 = .ok (.ireturn, 1) := by decide +kernel
theorem dX12_begins_0 : decode cX12_begins 0 = .ok (.aload_n 0, 1) := by decide +kernel
theorem dX12_begins_1 : decode cX12_begins 1 = .ok (.bipush 31, 2) := by decide +kernel
theorem dX12_begins_3 : decode cX12_begins 3 = .ok (.aload_n 0, 1) := by decide +kernel
theorem dX12_begins_4 : decode cX12_begins 4 = .ok (.getfield 230, 3) := by decide +kernel
theorem dX12_begins_7 : decode cX12_begins 7 = .ok (.imul, 1) := by decide +kernel
theorem dX12_begins_8 : decode cX12_begins 8 = .ok (.iload_n 1, 1) := by decide +kernel
theorem dX12_begins_9 : decode cX12_begins 9 = .ok (.iadd, 1) := by decide +kernel
theorem dX12_begins_10 : decode cX12_begins 10 = .ok (.putfield 230, 3) := by decide +kernel
theorem dX12_begins_13 : decode cX12_begins 13 = .ok (.return_, 1) := by decide +kernel
theorem dX12_tell_0 : decode cX12_tell 0 = .ok (.aload_n 0, 1) := by decide +kernel
theorem dX12_tell_1 : decode cX12_tell 1 = .ok (.iload_n 1, 1) := by decide +kernel
theorem dX12_tell_2 : decode cX12_tell 2 = .ok (.invokevirtual 144, 3) := by decide +kernel
theorem dX12_tell_5 : decode cX12_tell 5 = .ok (.ifCond .ne 5, 3) := by decide +kernel
theorem dX12_tell_8 : decode cX12_tell 8 = .ok (.iconst (-1), 1) := by decide +kernel
theorem dX12_tell_9 : decode cX12_tell 9 = .ok (.ireturn, 1) := by decide +kernel
theorem dX12_tell_10 : decode cX12_tell 10 = .ok (.bipush 10, 2) := by decide +kernel
theorem dX12_tell_12 : decode cX12_tell 12 = .ok (.aload_n 0, 1) := by decide +kernel
theorem dX12_tell_13 : decode cX12_tell 13 = .ok (.getfield 25, 3) := by decide +kernel
theorem dX12_tell_16 : decode cX12_tell 16 = .ok (.iload_n 1, 1) := by decide +kernel
theorem dX12_tell_17 : decode cX12_tell 17 = .ok (.iaload, 1) := by decide +kernel
theorem dX12_tell_18 : decode cX12_tell 18 = .ok (.imul, 1) := by decide +kernel
theorem dX12_tell_19 : decode cX12_tell 19 = .ok (.aload_n 0, 1) := by decide +kernel
theorem dX12_tell_20 : decode cX12_tell 20 = .ok (.getfield 28, 3) := by decide +kernel
theorem dX12_tell_23 : decode cX12_tell 23 = .ok (.iload_n 1, 1) := by decide +kernel
theorem dX12_tell_24 : decode cX12_tell 24 = .ok (.iaload, 1) := by decide +kernel
theorem dX12_tell_25 : decode cX12_tell 25 = .ok (.iadd, 1) := by decide +kernel
theorem dX12_tell_26 : decode cX12_tell 26 = .ok (.istore_n 2, 1) := by decide +kernel
theorem dX12_tell_27 : decode cX12_tell 27 = .ok (.bipush 100, 2) := by decide +kernel
theorem dX12_tell_29 : decode cX12_tell 29 = .ok (.aload_n 0, 1) := by decide +kernel
theorem dX12_tell_30 : decode cX12_tell 30 = .ok (.iload_n 1, 1) := by decide +kernel
theorem dX12_tell_31 : decode cX12_tell 31 = .ok (.aload_n 0, 1) := by decide +kernel
theorem dX12_tell_32 : decode cX12_tell 32 = .ok (.getfield 25, 3) := by decide +kernel
theorem dX12_tell_35 : decode cX12_tell 35 = .ok (.iload_n 1, 1) := by decide +kernel
theorem dX12_tell_36 : decode cX12_tell 36 = .ok (.iaload, 1) := by decide +kernel
theorem dX12_tell_37 : decode cX12_tell 37 = .ok (.invokevirtual 138, 3) := by decide +kernel
theorem dX12_tell_40 : decode cX12_tell 40 = .ok (.invokestatic 141, 3) := by decide +kernel
theorem dX12_tell_43 : decode cX12_tell 43 = .ok (.aload_n 0, 1) := by decide +kernel
theorem dX12_tell_44 : decode cX12_tell 44 = .ok (.iload_n 1, 1) := by decide +kernel
theorem dX12_tell_45 : decode cX12_tell 45 = .ok (.aload_n 0, 1) := by decide +kernel
theorem dX12_tell_46 : decode cX12_tell 46 = .ok (.getfield 28, 3) := by decide +kernel
theorem dX12_tell_49 : decode cX12_tell 49 = .ok (.iload_n 1, 1) := by decide +kernel
theorem dX12_tell_50 : decode cX12_tell 50 = .ok (.iaload, 1) := by decide +kernel
theorem dX12_tell_51 : decode cX12_tell 51 = .ok (.invokevirtual 138, 3) := by decide +kernel
theorem dX12_tell_54 : decode cX12_tell 54 = .ok (.invokestatic 141, 3) := by decide +kernel
theorem dX12_tell_57 : decode cX12_tell 57 = .ok (.iadd, 1) := by decide +kernel
theorem dX12_tell_58 : decode cX12_tell 58 = .ok (.imul, 1) := by decide +kernel
theorem dX12_tell_59 : decode cX12_tell 59 = .ok (.istore_n 3, 1) := by decide +kernel
theorem dX12_tell_60 : decode cX12_tell 60 = .ok (.aload_n 0, 1) := by decide +kernel
theorem dX12_tell_61 : decode cX12_tell 61 = .ok (.iload_n 1, 1) := by decide +kernel
theorem dX12_tell_62 : decode cX12_tell 62 = .ok (.invokevirtual 147, 3) := by decide +kernel
theorem dX12_tell_65 : decode cX12_tell 65 = .ok (.lookupswitch 67 #[(1, 27), (2, 41)], 27) := by decide +kernel
theorem dX12_tell_92 : decode cX12_tell 92 = .ok (.aload_n 0, 1) := by decide +kernel
theorem dX12_tell_93 : decode cX12_tell 93 = .ok (.iconst 2, 1) := by decide +kernel
theorem dX12_tell_94 : decode cX12_tell 94 = .ok (.invokevirtual 233, 3) := by decide +kernel
theorem dX12_tell_97 : decode cX12_tell 97 = .ok (.aload_n 0, 1) := by decide +kernel
theorem dX12_tell_98 : decode cX12_tell 98 = .ok (.iconst 1, 1) := by decide +kernel
theorem dX12_tell_99 : decode cX12_tell 99 = .ok (.invokevirtual 233, 3) := by decide +kernel
theorem dX12_tell_102 : decode cX12_tell 102 = .ok (.iload_n 2, 1) := by decide +kernel
theorem dX12_tell_103 : decode cX12_tell 103 = .ok (.iload_n 3, 1) := by decide +kernel
theorem dX12_tell_104 : decode cX12_tell 104 = .ok (.iadd, 1) := by decide +kernel
theorem dX12_tell_105 : decode cX12_tell 105 = .ok (.ireturn, 1) := by decide +kernel
theorem dX12_tell_106 : decode cX12_tell 106 = .ok (.aload_n 0, 1) := by decide +kernel
theorem dX12_tell_107 : decode cX12_tell 107 = .ok (.iconst 3, 1) := by decide +kernel
theorem dX12_tell_108 : decode cX12_tell 108 = .ok (.invokevirtual 233, 3) := by decide +kernel
theorem dX12_tell_111 : decode cX12_tell 111 = .ok (.aload_n 0, 1) := by decide +kernel
theorem dX12_tell_112 : decode cX12_tell 112 = .ok (.iconst 2, 1) := by decide +kernel
theorem dX12_tell_113 : decode cX12_tell 113 = .ok (.invokevirtual 233, 3) := by decide +kernel
theorem dX12_tell_116 : decode cX12_tell 116 = .ok (.aload_n 0, 1) := by decide +kernel
theorem dX12_tell_117 : decode cX12_tell 117 = .ok (.iconst 1, 1) := by decide +kernel
theorem dX12_tell_118 : decode cX12_tell 118 = .ok (.invokevirtual 233, 3) := by decide +kernel
theorem dX12_tell_121 : decode cX12_tell 121 = .ok (.aload_n 0, 1) := by decide +kernel
theorem dX12_tell_122 : decode cX12_tell 122 = .ok (.iconst 1, 1) := by decide +kernel
theorem dX12_tell_123 : decode cX12_tell 123 = .ok (.invokevirtual 233, 3) := by decide +kernel
theorem dX12_tell_126 : decode cX12_tell 126 = .ok (.iconst 2, 1) := by decide +kernel
theorem dX12_tell_127 : decode cX12_tell 127 = .ok (.iload_n 2, 1) := by decide +kernel
theorem dX12_tell_128 : decode cX12_tell 128 = .ok (.imul, 1) := by decide +kernel
theorem dX12_tell_129 : decode cX12_tell 129 = .ok (.iload_n 3, 1) := by decide +kernel
theorem dX12_tell_130 : decode cX12_tell 130 = .ok (.iadd, 1) := by decide +kernel
theorem dX12_tell_131 : decode cX12_tell 131 = .ok (.ireturn, 1) := by decide +kernel
theorem dX12_tell_132 : decode cX12_tell 132 = .ok (.aload_n 0, 1) := by decide +kernel
theorem dX12_tell_133 : decode cX12_tell 133 = .ok (.iconst 1, 1) := by decide +kernel
theorem dX12_tell_134 : decode cX12_tell 134 = .ok (.invokevirtual 233, 3) := by decide +kernel
theorem dX12_tell_137 : decode cX12_tell 137 = .ok (.iload_n 2, 1) := by decide +kernel
theorem dX12_tell_138 : decode cX12_tell 138 = .ok (.ireturn, 1) := by decide +kernel
theorem dX12_log_0 : decode cX12_log 0 = .ok (.aload_n 0, 1) := by decide +kernel
theorem dX12_log_1 : decode cX12_log 1 = .ok (.iload_n 1, 1) := by decide +kernel
theorem dX12_log_2 : decode cX12_log 2 = .ok (.invokevirtual 144, 3) := by decide +kernel
theorem dX12_log_5 : decode cX12_log 5 = .ok (.ifCond .ne 5, 3) := by decide +kernel
theorem dX12_log_8 : decode cX12_log 8 = .ok (.iconst (-1), 1) := by decide +kernel
theorem dX12_log_9 : decode cX12_log 9 = .ok (.ireturn, 1) := by decide +kernel
theorem dX12_log_10 : decode cX12_log 10 = .ok (.aload_n 0, 1) := by decide +kernel
theorem dX12_log_11 : decode cX12_log 11 = .ok (.iload_n 1, 1) := by decide +kernel
theorem dX12_log_12 : decode cX12_log 12 = .ok (.invokevirtual 147, 3) := by decide +kernel
theorem dX12_log_15 : decode cX12_log 15 = .ok (.iconst 2, 1) := by decide +kernel
theorem dX12_log_16 : decode cX12_log 16 = .ok (.if_icmp .ne 7, 3) := by decide +kernel
theorem dX12_log_19 : decode cX12_log 19 = .ok (.iconst 1, 1) := by decide +kernel
theorem dX12_log_20 : decode cX12_log 20 = .ok (.goto 4, 3) := by decide +kernel
theorem dX12_log_23 : decode cX12_log 23 = .ok (.iconst 0, 1) := by decide +kernel
theorem dX12_log_24 : decode cX12_log 24 = .ok (.istore_n 2, 1) := by decide +kernel
theorem dX12_log_25 : decode cX12_log 25 = .ok (.aload_n 0, 1) := by decide +kernel
theorem dX12_log_26 : decode cX12_log 26 = .ok (.iload_n 2, 1) := by decide +kernel
theorem dX12_log_27 : decode cX12_log 27 = .ok (.ifCond .eq 7, 3) := by decide +kernel
theorem dX12_log_30 : decode cX12_log 30 = .ok (.iconst 5, 1) := by decide +kernel
theorem dX12_log_31 : decode cX12_log 31 = .ok (.goto 4, 3) := by decide +kernel
theorem dX12_log_34 : decode cX12_log 34 = .ok (.iconst 4, 1) := by decide +kernel
theorem dX12_log_35 : decode cX12_log 35 = .ok (.invokevirtual 233, 3) := by decide +kernel
theorem dX12_log_38 : decode cX12_log 38 = .ok (.iload_n 2, 1) := by decide +kernel
theorem dX12_log_39 : decode cX12_log 39 = .ok (.ifCond .eq 8, 3) := by decide +kernel
theorem dX12_log_42 : decode cX12_log 42 = .ok (.bipush 70, 2) := by decide +kernel
theorem dX12_log_44 : decode cX12_log 44 = .ok (.goto 4, 3) := by decide +kernel
theorem dX12_log_47 : decode cX12_log 47 = .ok (.iload_n 1, 1) := by decide +kernel
theorem dX12_log_48 : decode cX12_log 48 = .ok (.ireturn, 1) := by decide +kernel
theorem dX12_as_0 : decode cX12_as 0 = .ok (.aload_n 0, 1) := by decide +kernel
theorem dX12_as_1 : decode cX12_as 1 = .ok (.iconst 0, 1) := by decide +kernel
theorem dX12_as_2 : decode cX12_as 2 = .ok (.putfield 72, 3) := by decide +kernel
theorem dX12_as_5 : decode cX12_as 5 = .ok (.aload_n 0, 1) := by decide +kernel
theorem dX12_as_6 : decode cX12_as 6 = .ok (.iload_n 1, 1) := by decide +kernel
theorem dX12_as_7 : decode cX12_as 7 = .ok (.invokevirtual 144, 3) := by decide +kernel
theorem dX12_as_10 : decode cX12_as 10 = .ok (.ifCond .ne 5, 3) := by decide +kernel
theorem dX12_as_13 : decode cX12_as 13 = .ok (.iconst (-1), 1) := by decide +kernel
theorem dX12_as_14 : decode cX12_as 14 = .ok (.ireturn, 1) := by decide +kernel
theorem dX12_as_15 : decode cX12_as 15 = .ok (.iload_n 2, 1) := by decide +kernel
theorem dX12_as_16 : decode cX12_as 16 = .ok (.iconst 0, 1) := by decide +kernel
theorem dX12_as_17 : decode cX12_as 17 = .ok (.iconst 2, 1) := by decide +kernel
theorem dX12_as_18 : decode cX12_as 18 = .ok (.invokestatic 78, 3) := by decide +kernel
theorem dX12_as_21 : decode cX12_as 21 = .ok (.ifCond .ne 6, 3) := by decide +kernel
theorem dX12_as_24 : decode cX12_as 24 = .ok (.bipush (-2), 2) := by decide +kernel
theorem dX12_as_26 : decode cX12_as 26 = .ok (.ireturn, 1) := by decide +kernel
theorem dX12_as_27 : decode cX12_as 27 = .ok (.aload_n 0, 1) := by decide +kernel
theorem dX12_as_28 : decode cX12_as 28 = .ok (.iload_n 1, 1) := by decide +kernel
theorem dX12_as_29 : decode cX12_as 29 = .ok (.invokevirtual 147, 3) := by decide +kernel
theorem dX12_as_32 : decode cX12_as 32 = .ok (.iload_n 2, 1) := by decide +kernel
theorem dX12_as_33 : decode cX12_as 33 = .ok (.if_icmp .lt 7, 3) := by decide +kernel
theorem dX12_as_36 : decode cX12_as 36 = .ok (.iconst 1, 1) := by decide +kernel
theorem dX12_as_37 : decode cX12_as 37 = .ok (.goto 8, 3) := by decide +kernel
theorem dX12_as_40 : decode cX12_as 40 = .ok (.aload_n 0, 1) := by decide +kernel
theorem dX12_as_41 : decode cX12_as 41 = .ok (.iconst 2, 1) := by decide +kernel
theorem dX12_as_42 : decode cX12_as 42 = .ok (.invokevirtual 92, 3) := by decide +kernel
theorem dX12_as_45 : decode cX12_as 45 = .ok (.ireturn, 1) := by decide +kernel
theorem dX12_trace_0 : decode cX12_trace 0 = .ok (.aload_n 0, 1) := by decide +kernel
theorem dX12_trace_1 : decode cX12_trace 1 = .ok (.getfield 230, 3) := by decide +kernel
theorem dX12_trace_4 : decode cX12_trace 4 = .ok (.ireturn, 1) := by decide +kernel
theorem dX12_fault_0 : decode cX12_fault 0 = .ok (.aload_n 0, 1) := by decide +kernel
theorem dX12_fault_1 : decode cX12_fault 1 = .ok (.getfield 72, 3) := by decide +kernel
theorem dX12_fault_4 : decode cX12_fault 4 = .ok (.ireturn, 1) := by decide +kernel
theorem dX12_many_0 : decode cX12_many 0 = .ok (.iconst 0, 1) := by decide +kernel
theorem dX12_many_1 : decode cX12_many 1 = .ok (.istore_n 2, 1) := by decide +kernel
theorem dX12_many_2 : decode cX12_many 2 = .ok (.iconst 0, 1) := by decide +kernel
theorem dX12_many_3 : decode cX12_many 3 = .ok (.istore_n 3, 1) := by decide +kernel
theorem dX12_many_4 : decode cX12_many 4 = .ok (.iconst 0, 1) := by decide +kernel
theorem dX12_many_5 : decode cX12_many 5 = .ok (.istore 4, 2) := by decide +kernel
theorem dX12_many_7 : decode cX12_many 7 = .ok (.iload 4, 2) := by decide +kernel
theorem dX12_many_9 : decode cX12_many 9 = .ok (.aload_n 0, 1) := by decide +kernel
theorem dX12_many_10 : decode cX12_many 10 = .ok (.getfield 82, 3) := by decide +kernel
theorem dX12_many_13 : decode cX12_many 13 = .ok (.if_icmp .ge 54, 3) := by decide +kernel
theorem dX12_many_16 : decode cX12_many 16 = .ok (.iload_n 2, 1) := by decide +kernel
theorem dX12_many_17 : decode cX12_many 17 = .ok (.aload_n 0, 1) := by decide +kernel
theorem dX12_many_18 : decode cX12_many 18 = .ok (.aload_n 0, 1) := by decide +kernel
theorem dX12_many_19 : decode cX12_many 19 = .ok (.getfield 103, 3) := by decide +kernel
theorem dX12_many_22 : decode cX12_many 22 = .ok (.invokevirtual 128, 3) := by decide +kernel
theorem dX12_many_25 : decode cX12_many 25 = .ok (.iload 4, 2) := by decide +kernel
theorem dX12_many_27 : decode cX12_many 27 = .ok (.invokestatic 110, 3) := by decide +kernel
theorem dX12_many_30 : decode cX12_many 30 = .ok (.iconst 1, 1) := by decide +kernel
theorem dX12_many_31 : decode cX12_many 31 = .ok (.aload_n 0, 1) := by decide +kernel
theorem dX12_many_32 : decode cX12_many 32 = .ok (.getfield 82, 3) := by decide +kernel
theorem dX12_many_35 : decode cX12_many 35 = .ok (.ishl, 1) := by decide +kernel
theorem dX12_many_36 : decode cX12_many 36 = .ok (.iconst 1, 1) := by decide +kernel
theorem dX12_many_37 : decode cX12_many 37 = .ok (.isub, 1) := by decide +kernel
theorem dX12_many_38 : decode cX12_many 38 = .ok (.if_icmp .ne 7, 3) := by decide +kernel
theorem dX12_many_41 : decode cX12_many 41 = .ok (.iconst 1, 1) := by decide +kernel
theorem dX12_many_42 : decode cX12_many 42 = .ok (.goto 4, 3) := by decide +kernel
theorem dX12_many_45 : decode cX12_many 45 = .ok (.iconst 0, 1) := by decide +kernel
theorem dX12_many_46 : decode cX12_many 46 = .ok (.iadd, 1) := by decide +kernel
theorem dX12_many_47 : decode cX12_many 47 = .ok (.istore_n 2, 1) := by decide +kernel
theorem dX12_many_48 : decode cX12_many 48 = .ok (.iload_n 3, 1) := by decide +kernel
theorem dX12_many_49 : decode cX12_many 49 = .ok (.aload_n 0, 1) := by decide +kernel
theorem dX12_many_50 : decode cX12_many 50 = .ok (.getfield 19, 3) := by decide +kernel
theorem dX12_many_53 : decode cX12_many 53 = .ok (.iload 4, 2) := by decide +kernel
theorem dX12_many_55 : decode cX12_many 55 = .ok (.iaload, 1) := by decide +kernel
theorem dX12_many_56 : decode cX12_many 56 = .ok (.invokestatic 141, 3) := by decide +kernel
theorem dX12_many_59 : decode cX12_many 59 = .ok (.iadd, 1) := by decide +kernel
theorem dX12_many_60 : decode cX12_many 60 = .ok (.istore_n 3, 1) := by decide +kernel
theorem dX12_many_61 : decode cX12_many 61 = .ok (.iinc 4 1, 3) := by decide +kernel
theorem dX12_many_64 : decode cX12_many 64 = .ok (.goto (-57), 3) := by decide +kernel
theorem dX12_many_67 : decode cX12_many 67 = .ok (.iload_n 1, 1) := by decide +kernel
theorem dX12_many_68 : decode cX12_many 68 = .ok (.tableswitch 46 0 3 #[32, 37, 42, 44], 32) := by decide +kernel
theorem dX12_many_100 : decode cX12_many 100 = .ok (.aload_n 0, 1) := by decide +kernel
theorem dX12_many_101 : decode cX12_many 101 = .ok (.getfield 82, 3) := by decide +kernel
theorem dX12_many_104 : decode cX12_many 104 = .ok (.ireturn, 1) := by decide +kernel
theorem dX12_many_105 : decode cX12_many 105 = .ok (.aload_n 0, 1) := by decide +kernel
theorem dX12_many_106 : decode cX12_many 106 = .ok (.getfield 103, 3) := by decide +kernel
theorem dX12_many_109 : decode cX12_many 109 = .ok (.ireturn, 1) := by decide +kernel
theorem dX12_many_110 : decode cX12_many 110 = .ok (.iload_n 2, 1) := by decide +kernel
theorem dX12_many_111 : decode cX12_many 111 = .ok (.ireturn, 1) := by decide +kernel
theorem dX12_many_112 : decode cX12_many 112 = .ok (.iload_n 3, 1) := by decide +kernel
theorem dX12_many_113 : decode cX12_many 113 = .ok (.ireturn, 1) := by decide +kernel
theorem dX12_many_114 : decode cX12_many 114 = .ok (.bipush (-2), 2) := by decide +kernel
theorem dX12_many_116 : decode cX12_many 116 = .ok (.ireturn, 1) := by decide +kernel
end
section
theorem dX0_init_0 : decode cX0_init 0 = .ok (.aload_n 0, 1) := by decide +kernel
theorem dX0_init_1 : decode cX0_init 1 = .ok (.invokespecial 3, 3) := by decide +kernel
theorem dX0_init_4 : decode cX0_init 4 = .ok (.aload_n 0, 1) := by decide +kernel
theorem dX0_init_5 : decode cX0_init 5 = .ok (.iconst 4, 1) := by decide +kernel
theorem dX0_init_6 : decode cX0_init 6 = .ok (.newarray .int, 2) := by decide +kernel
theorem dX0_init_8 : decode cX0_init 8 = .ok (.putfield 9, 3) := by decide +kernel
theorem dX0_init_11 : decode cX0_init 11 = .ok (.aload_n 0, 1) := by decide +kernel
theorem dX0_init_12 : decode cX0_init 12 = .ok (.iconst 4, 1) := by decide +kernel
theorem dX0_init_13 : decode cX0_init 13 = .ok (.newarray .int, 2) := by decide +kernel
theorem dX0_init_15 : decode cX0_init 15 = .ok (.putfield 15, 3) := by decide +kernel
theorem dX0_init_18 : decode cX0_init 18 = .ok (.aload_n 0, 1) := by decide +kernel
theorem dX0_init_19 : decode cX0_init 19 = .ok (.iconst 4, 1) := by decide +kernel
theorem dX0_init_20 : decode cX0_init 20 = .ok (.newarray .int, 2) := by decide +kernel
theorem dX0_init_22 : decode cX0_init 22 = .ok (.putfield 18, 3) := by decide +kernel
theorem dX0_init_25 : decode cX0_init 25 = .ok (.return_, 1) := by decide +kernel
theorem dX0_forget_0 : decode cX0_forget 0 = .ok (.aload_n 0, 1) := by decide +kernel
theorem dX0_forget_1 : decode cX0_forget 1 = .ok (.iconst 0, 1) := by decide +kernel
theorem dX0_forget_2 : decode cX0_forget 2 = .ok (.putfield 21, 3) := by decide +kernel
theorem dX0_forget_5 : decode cX0_forget 5 = .ok (.return_, 1) := by decide +kernel
theorem dX0_rowsFor_0 : decode cX0_rowsFor 0 = .ok (.aload_n 0, 1) := by decide +kernel
theorem dX0_rowsFor_1 : decode cX0_rowsFor 1 = .ok (.iload_n 1, 1) := by decide +kernel
theorem dX0_rowsFor_2 : decode cX0_rowsFor 2 = .ok (.lload_n 2, 1) := by decide +kernel
theorem dX0_rowsFor_3 : decode cX0_rowsFor 3 = .ok (.aload 4, 2) := by decide +kernel
theorem dX0_rowsFor_5 : decode cX0_rowsFor 5 = .ok (.iload 5, 2) := by decide +kernel
theorem dX0_rowsFor_7 : decode cX0_rowsFor 7 = .ok (.invokevirtual 25, 3) := by decide +kernel
theorem dX0_rowsFor_10 : decode cX0_rowsFor 10 = .ok (.aload_n 0, 1) := by decide +kernel
theorem dX0_rowsFor_11 : decode cX0_rowsFor 11 = .ok (.getfield 9, 3) := by decide +kernel
theorem dX0_rowsFor_14 : decode cX0_rowsFor 14 = .ok (.iload_n 1, 1) := by decide +kernel
theorem dX0_rowsFor_15 : decode cX0_rowsFor 15 = .ok (.iaload, 1) := by decide +kernel
theorem dX0_rowsFor_16 : decode cX0_rowsFor 16 = .ok (.ireturn, 1) := by decide +kernel
theorem dX0_sureSecretsFor_0 : decode cX0_sureSecretsFor 0 = .ok (.aload_n 0, 1) := by decide +kernel
theorem dX0_sureSecretsFor_1 : decode cX0_sureSecretsFor 1 = .ok (.iload_n 1, 1) := by decide +kernel
theorem dX0_sureSecretsFor_2 : decode cX0_sureSecretsFor 2 = .ok (.lload_n 2, 1) := by decide +kernel
theorem dX0_sureSecretsFor_3 : decode cX0_sureSecretsFor 3 = .ok (.aload 4, 2) := by decide +kernel
theorem dX0_sureSecretsFor_5 : decode cX0_sureSecretsFor 5 = .ok (.iload 5, 2) := by decide +kernel
theorem dX0_sureSecretsFor_7 : decode cX0_sureSecretsFor 7 = .ok (.invokevirtual 25, 3) := by decide +kernel
theorem dX0_sureSecretsFor_10 : decode cX0_sureSecretsFor 10 = .ok (.aload_n 0, 1) := by decide +kernel
theorem dX0_sureSecretsFor_11 : decode cX0_sureSecretsFor 11 = .ok (.getfield 15, 3) := by decide +kernel
theorem dX0_sureSecretsFor_14 : decode cX0_sureSecretsFor 14 = .ok (.iload_n 1, 1) := by decide +kernel
theorem dX0_sureSecretsFor_15 : decode cX0_sureSecretsFor 15 = .ok (.iaload, 1) := by decide +kernel
theorem dX0_sureSecretsFor_16 : decode cX0_sureSecretsFor 16 = .ok (.ireturn, 1) := by decide +kernel
theorem dX0_find_0 : decode cX0_find 0 = .ok (.aload_n 0, 1) := by decide +kernel
theorem dX0_find_1 : decode cX0_find 1 = .ok (.getfield 21, 3) := by decide +kernel
theorem dX0_find_4 : decode cX0_find 4 = .ok (.iload_n 1, 1) := by decide +kernel
theorem dX0_find_5 : decode cX0_find 5 = .ok (.invokestatic 29, 3) := by decide +kernel
theorem dX0_find_8 : decode cX0_find 8 = .ok (.ifCond .eq 4, 3) := by decide +kernel
theorem dX0_find_11 : decode cX0_find 11 = .ok (.return_, 1) := by decide +kernel
theorem dX0_find_12 : decode cX0_find 12 = .ok (.aload_n 0, 1) := by decide +kernel
theorem dX0_find_13 : decode cX0_find 13 = .ok (.iload 5, 2) := by decide +kernel
theorem dX0_find_15 : decode cX0_find 15 = .ok (.iconst 4, 1) := by decide +kernel
theorem dX0_find_16 : decode cX0_find 16 = .ok (.invokestatic 33, 3) := by decide +kernel
theorem dX0_find_19 : decode cX0_find 19 = .ok (.putfield 39, 3) := by decide +kernel
theorem dX0_find_22 : decode cX0_find 22 = .ok (.iconst 0, 1) := by decide +kernel
theorem dX0_find_23 : decode cX0_find 23 = .ok (.istore 6, 2) := by decide +kernel
theorem dX0_find_25 : decode cX0_find 25 = .ok (.iload 6, 2) := by decide +kernel
theorem dX0_find_27 : decode cX0_find 27 = .ok (.aload_n 0, 1) := by decide +kernel
theorem dX0_find_28 : decode cX0_find 28 = .ok (.getfield 39, 3) := by decide +kernel
theorem dX0_find_31 : decode cX0_find 31 = .ok (.if_icmp .ge 51, 3) := by decide +kernel
theorem dX0_find_34 : decode cX0_find 34 = .ok (.aload 4, 2) := by decide +kernel
theorem dX0_find_36 : decode cX0_find 36 = .ok (.iload 6, 2) := by decide +kernel
theorem dX0_find_38 : decode cX0_find 38 = .ok (.aaload, 1) := by decide +kernel
theorem dX0_find_39 : decode cX0_find 39 = .ok (.astore 7, 2) := by decide +kernel
theorem dX0_find_41 : decode cX0_find 41 = .ok (.aload_n 0, 1) := by decide +kernel
theorem dX0_find_42 : decode cX0_find 42 = .ok (.getfield 18, 3) := by decide +kernel
theorem dX0_find_45 : decode cX0_find 45 = .ok (.iload 6, 2) := by decide +kernel
theorem dX0_find_47 : decode cX0_find 47 = .ok (.aload 7, 2) := by decide +kernel
theorem dX0_find_49 : decode cX0_find 49 = .ok (.ifnonnull 7, 3) := by decide +kernel
theorem dX0_find_52 : decode cX0_find 52 = .ok (.iconst 0, 1) := by decide +kernel
theorem dX0_find_53 : decode cX0_find 53 = .ok (.goto 22, 3) := by decide +kernel
theorem dX0_find_56 : decode cX0_find 56 = .ok (.iload_n 1, 1) := by decide +kernel
theorem dX0_find_57 : decode cX0_find 57 = .ok (.aload 7, 2) := by decide +kernel
theorem dX0_find_59 : decode cX0_find 59 = .ok (.getfield 42, 3) := by decide +kernel
theorem dX0_find_62 : decode cX0_find 62 = .ok (.aload 7, 2) := by decide +kernel
theorem dX0_find_64 : decode cX0_find 64 = .ok (.getfield 47, 3) := by decide +kernel
theorem dX0_find_67 : decode cX0_find 67 = .ok (.aload 7, 2) := by decide +kernel
theorem dX0_find_69 : decode cX0_find 69 = .ok (.getfield 50, 3) := by decide +kernel
theorem dX0_find_72 : decode cX0_find 72 = .ok (.invokestatic 54, 3) := by decide +kernel
theorem dX0_find_75 : decode cX0_find 75 = .ok (.iastore, 1) := by decide +kernel
theorem dX0_find_76 : decode cX0_find 76 = .ok (.iinc 6 1, 3) := by decide +kernel
theorem dX0_find_79 : decode cX0_find 79 = .ok (.goto (-54), 3) := by decide +kernel
theorem dX0_find_82 : decode cX0_find 82 = .ok (.aload_n 0, 1) := by decide +kernel
theorem dX0_find_83 : decode cX0_find 83 = .ok (.getfield 9, 3) := by decide +kernel
theorem dX0_find_86 : decode cX0_find 86 = .ok (.iload_n 1, 1) := by decide +kernel
theorem dX0_find_87 : decode cX0_find 87 = .ok (.iconst 0, 1) := by decide +kernel
theorem dX0_find_88 : decode cX0_find 88 = .ok (.iastore, 1) := by decide +kernel
theorem dX0_find_89 : decode cX0_find 89 = .ok (.aload_n 0, 1) := by decide +kernel
theorem dX0_find_90 : decode cX0_find 90 = .ok (.getfield 15, 3) := by decide +kernel
theorem dX0_find_93 : decode cX0_find 93 = .ok (.iload_n 1, 1) := by decide +kernel
theorem dX0_find_94 : decode cX0_find 94 = .ok (.ldc 58, 2) := by decide +kernel
theorem dX0_find_96 : decode cX0_find 96 = .ok (.iastore, 1) := by decide +kernel
theorem dX0_find_97 : decode cX0_find 97 = .ok (.aload_n 0, 1) := by decide +kernel
theorem dX0_find_98 : decode cX0_find 98 = .ok (.iload_n 1, 1) := by decide +kernel
theorem dX0_find_99 : decode cX0_find 99 = .ok (.lload_n 2, 1) := by decide +kernel
theorem dX0_find_100 : decode cX0_find 100 = .ok (.iconst 0, 1) := by decide +kernel
theorem dX0_find_101 : decode cX0_find 101 = .ok (.invokevirtual 59, 3) := by decide +kernel
theorem dX0_find_104 : decode cX0_find 104 = .ok (.aload_n 0, 1) := by decide +kernel
theorem dX0_find_105 : decode cX0_find 105 = .ok (.dup, 1) := by decide +kernel
theorem dX0_find_106 : decode cX0_find 106 = .ok (.getfield 21, 3) := by decide +kernel
theorem dX0_find_109 : decode cX0_find 109 = .ok (.iconst 1, 1) := by decide +kernel
theorem dX0_find_110 : decode cX0_find 110 = .ok (.iload_n 1, 1) := by decide +kernel
theorem dX0_find_111 : decode cX0_find 111 = .ok (.ishl, 1) := by decide +kernel
theorem dX0_find_112 : decode cX0_find 112 = .ok (.ior, 1) := by decide +kernel
theorem dX0_find_113 : decode cX0_find 113 = .ok (.putfield 21, 3) := by decide +kernel
theorem dX0_find_116 : decode cX0_find 116 = .ok (.return_, 1) := by decide +kernel
theorem dX0_follow_0 : decode cX0_follow 0 = .ok (.iload 4, 2) := by decide +kernel
theorem dX0_follow_2 : decode cX0_follow 2 = .ok (.aload_n 0, 1) := by decide +kernel
theorem dX0_follow_3 : decode cX0_follow 3 = .ok (.getfield 39, 3) := by decide +kernel
theorem dX0_follow_6 : decode cX0_follow 6 = .ok (.if_icmp .ge 9, 3) := by decide +kernel
theorem dX0_follow_9 : decode cX0_follow 9 = .ok (.iload 4, 2) := by decide +kernel
theorem dX0_follow_11 : decode cX0_follow 11 = .ok (.iconst 4, 1) := by decide +kernel
theorem dX0_follow_12 : decode cX0_follow 12 = .ok (.if_icmp .lt 27, 3) := by decide +kernel
theorem dX0_follow_15 : decode cX0_follow 15 = .ok (.aload_n 0, 1) := by decide +kernel
theorem dX0_follow_16 : decode cX0_follow 16 = .ok (.getfield 9, 3) := by decide +kernel
theorem dX0_follow_19 : decode cX0_follow 19 = .ok (.iload_n 1, 1) := by decide +kernel
theorem dX0_follow_20 : decode cX0_follow 20 = .ok (.dup2, 1) := by decide +kernel
theorem dX0_follow_21 : decode cX0_follow 21 = .ok (.iaload, 1) := by decide +kernel
theorem dX0_follow_22 : decode cX0_follow 22 = .ok (.iconst 1, 1) := by decide +kernel
theorem dX0_follow_23 : decode cX0_follow 23 = .ok (.iadd, 1) := by decide +kernel
theorem dX0_follow_24 : decode cX0_follow 24 = .ok (.iastore, 1) := by decide +kernel
theorem dX0_follow_25 : decode cX0_follow 25 = .ok (.aload_n 0, 1) := by decide +kernel
theorem dX0_follow_26 : decode cX0_follow 26 = .ok (.getfield 15, 3) := by decide +kernel
theorem dX0_follow_29 : decode cX0_follow 29 = .ok (.iload_n 1, 1) := by decide +kernel
theorem dX0_follow_30 : decode cX0_follow 30 = .ok (.dup2, 1) := by decide +kernel
theorem dX0_follow_31 : decode cX0_follow 31 = .ok (.iaload, 1) := by decide +kernel
theorem dX0_follow_32 : decode cX0_follow 32 = .ok (.lload_n 2, 1) := by decide +kernel
theorem dX0_follow_33 : decode cX0_follow 33 = .ok (.invokestatic 63, 3) := by decide +kernel
theorem dX0_follow_36 : decode cX0_follow 36 = .ok (.iand, 1) := by decide +kernel
theorem dX0_follow_37 : decode cX0_follow 37 = .ok (.iastore, 1) := by decide +kernel
theorem dX0_follow_38 : decode cX0_follow 38 = .ok (.return_, 1) := by decide +kernel
theorem dX0_follow_39 : decode cX0_follow 39 = .ok (.lload_n 2, 1) := by decide +kernel
theorem dX0_follow_40 : decode cX0_follow 40 = .ok (.invokestatic 69, 3) := by decide +kernel
theorem dX0_follow_43 : decode cX0_follow 43 = .ok (.istore 5, 2) := by decide +kernel
theorem dX0_follow_45 : decode cX0_follow 45 = .ok (.iconst 0, 1) := by decide +kernel
theorem dX0_follow_46 : decode cX0_follow 46 = .ok (.istore 6, 2) := by decide +kernel
theorem dX0_follow_48 : decode cX0_follow 48 = .ok (.iload 6, 2) := by decide +kernel
theorem dX0_follow_50 : decode cX0_follow 50 = .ok (.iload 5, 2) := by decide +kernel
theorem dX0_follow_52 : decode cX0_follow 52 = .ok (.if_icmp .ge 94, 3) := by decide +kernel
theorem dX0_follow_55 : decode cX0_follow 55 = .ok (.lload_n 2, 1) := by decide +kernel
theorem dX0_follow_56 : decode cX0_follow 56 = .ok (.iload 6, 2) := by decide +kernel
theorem dX0_follow_58 : decode cX0_follow 58 = .ok (.invokestatic 72, 3) := by decide +kernel
theorem dX0_follow_61 : decode cX0_follow 61 = .ok (.iconst 1, 1) := by decide +kernel
theorem dX0_follow_62 : decode cX0_follow 62 = .ok (.iload 6, 2) := by decide +kernel
theorem dX0_follow_64 : decode cX0_follow 64 = .ok (.ishl, 1) := by decide +kernel
theorem dX0_follow_65 : decode cX0_follow 65 = .ok (.iconst (-1), 1) := by decide +kernel
theorem dX0_follow_66 : decode cX0_follow 66 = .ok (.ixor, 1) := by decide +kernel
theorem dX0_follow_67 : decode cX0_follow 67 = .ok (.iand, 1) := by decide +kernel
theorem dX0_follow_68 : decode cX0_follow 68 = .ok (.istore 7, 2) := by decide +kernel
theorem dX0_follow_70 : decode cX0_follow 70 = .ok (.iconst 0, 1) := by decide +kernel
theorem dX0_follow_71 : decode cX0_follow 71 = .ok (.istore 8, 2) := by decide +kernel
theorem dX0_follow_73 : decode cX0_follow 73 = .ok (.iload 8, 2) := by decide +kernel
theorem dX0_follow_75 : decode cX0_follow 75 = .ok (.iload 5, 2) := by decide +kernel
theorem dX0_follow_77 : decode cX0_follow 77 = .ok (.if_icmp .ge 63, 3) := by decide +kernel
theorem dX0_follow_80 : decode cX0_follow 80 = .ok (.iload 7, 2) := by decide +kernel
theorem dX0_follow_82 : decode cX0_follow 82 = .ok (.iload 8, 2) := by decide +kernel
theorem dX0_follow_84 : decode cX0_follow 84 = .ok (.invokestatic 29, 3) := by decide +kernel
theorem dX0_follow_87 : decode cX0_follow 87 = .ok (.ifCond .ne 6, 3) := by decide +kernel
theorem dX0_follow_90 : decode cX0_follow 90 = .ok (.goto 44, 3) := by decide +kernel
theorem dX0_follow_93 : decode cX0_follow 93 = .ok (.lload_n 2, 1) := by decide +kernel
theorem dX0_follow_94 : decode cX0_follow 94 = .ok (.iload 6, 2) := by decide +kernel
theorem dX0_follow_96 : decode cX0_follow 96 = .ok (.iload 8, 2) := by decide +kernel
theorem dX0_follow_98 : decode cX0_follow 98 = .ok (.invokestatic 76, 3) := by decide +kernel
theorem dX0_follow_101 : decode cX0_follow 101 = .ok (.lstore 9, 2) := by decide +kernel
theorem dX0_follow_103 : decode cX0_follow 103 = .ok (.iload_n 1, 1) := by decide +kernel
theorem dX0_follow_104 : decode cX0_follow 104 = .ok (.iload 6, 2) := by decide +kernel
theorem dX0_follow_106 : decode cX0_follow 106 = .ok (.iload 8, 2) := by decide +kernel
theorem dX0_follow_108 : decode cX0_follow 108 = .ok (.lload 9, 2) := by decide +kernel
theorem dX0_follow_110 : decode cX0_follow 110 = .ok (.invokestatic 54, 3) := by decide +kernel
theorem dX0_follow_113 : decode cX0_follow 113 = .ok (.aload_n 0, 1) := by decide +kernel
theorem dX0_follow_114 : decode cX0_follow 114 = .ok (.getfield 18, 3) := by decide +kernel
theorem dX0_follow_117 : decode cX0_follow 117 = .ok (.iload 4, 2) := by decide +kernel
theorem dX0_follow_119 : decode cX0_follow 119 = .ok (.iaload, 1) := by decide +kernel
theorem dX0_follow_120 : decode cX0_follow 120 = .ok (.if_icmp .ne 14, 3) := by decide +kernel
theorem dX0_follow_123 : decode cX0_follow 123 = .ok (.aload_n 0, 1) := by decide +kernel
theorem dX0_follow_124 : decode cX0_follow 124 = .ok (.iload_n 1, 1) := by decide +kernel
theorem dX0_follow_125 : decode cX0_follow 125 = .ok (.lload 9, 2) := by decide +kernel
theorem dX0_follow_127 : decode cX0_follow 127 = .ok (.iload 4, 2) := by decide +kernel
theorem dX0_follow_129 : decode cX0_follow 129 = .ok (.iconst 1, 1) := by decide +kernel
theorem dX0_follow_130 : decode cX0_follow 130 = .ok (.iadd, 1) := by decide +kernel
theorem dX0_follow_131 : decode cX0_follow 131 = .ok (.invokevirtual 59, 3) := by decide +kernel
theorem dX0_follow_134 : decode cX0_follow 134 = .ok (.iinc 8 1, 3) := by decide +kernel
theorem dX0_follow_137 : decode cX0_follow 137 = .ok (.goto (-64), 3) := by decide +kernel
theorem dX0_follow_140 : decode cX0_follow 140 = .ok (.iinc 6 1, 3) := by decide +kernel
theorem dX0_follow_143 : decode cX0_follow 143 = .ok (.goto (-95), 3) := by decide +kernel
theorem dX0_follow_146 : decode cX0_follow 146 = .ok (.return_, 1) := by decide +kernel
theorem dX0_sight_0 : decode cX0_sight 0 = .ok (.iload_n 0, 1) := by decide +kernel
theorem dX0_sight_1 : decode cX0_sight 1 = .ok (.iload_n 1, 1) := by decide +kernel
theorem dX0_sight_2 : decode cX0_sight 2 = .ok (.if_icmp .eq 10, 3) := by decide +kernel
theorem dX0_sight_5 : decode cX0_sight 5 = .ok (.iload_n 0, 1) := by decide +kernel
theorem dX0_sight_6 : decode cX0_sight 6 = .ok (.iload_n 2, 1) := by decide +kernel
theorem dX0_sight_7 : decode cX0_sight 7 = .ok (.if_icmp .eq 5, 3) := by decide +kernel
theorem dX0_sight_10 : decode cX0_sight 10 = .ok (.iconst 0, 1) := by decide +kernel
theorem dX0_sight_11 : decode cX0_sight 11 = .ok (.ireturn, 1) := by decide +kernel
theorem dX0_sight_12 : decode cX0_sight 12 = .ok (.lload_n 3, 1) := by decide +kernel
theorem dX0_sight_13 : decode cX0_sight 13 = .ok (.iload_n 0, 1) := by decide +kernel
theorem dX0_sight_14 : decode cX0_sight 14 = .ok (.invokestatic 80, 3) := by decide +kernel
theorem dX0_sight_17 : decode cX0_sight 17 = .ok (.iconst 4, 1) := by decide +kernel
theorem dX0_sight_18 : decode cX0_sight 18 = .ok (.ishl, 1) := by decide +kernel
theorem dX0_sight_19 : decode cX0_sight 19 = .ok (.iload_n 1, 1) := by decide +kernel
theorem dX0_sight_20 : decode cX0_sight 20 = .ok (.iload_n 2, 1) := by decide +kernel
theorem dX0_sight_21 : decode cX0_sight 21 = .ok (.invokestatic 83, 3) := by decide +kernel
theorem dX0_sight_24 : decode cX0_sight 24 = .ok (.ior, 1) := by decide +kernel
theorem dX0_sight_25 : decode cX0_sight 25 = .ok (.ireturn, 1) := by decide +kernel
theorem dX1_init_0 : decode cX1_init 0 = .ok (.aload_n 0, 1) := by decide +kernel
theorem dX1_init_1 : decode cX1_init 1 = .ok (.invokespecial 1, 3) := by decide +kernel
theorem dX1_init_4 : decode cX1_init 4 = .ok (.aload_n 0, 1) := by decide +kernel
theorem dX1_init_5 : decode cX1_init 5 = .ok (.iload_n 1, 1) := by decide +kernel
theorem dX1_init_6 : decode cX1_init 6 = .ok (.putfield 7, 3) := by decide +kernel
theorem dX1_init_9 : decode cX1_init 9 = .ok (.aload_n 0, 1) := by decide +kernel
theorem dX1_init_10 : decode cX1_init 10 = .ok (.iload_n 2, 1) := by decide +kernel
theorem dX1_init_11 : decode cX1_init 11 = .ok (.putfield 13, 3) := by decide +kernel
theorem dX1_init_14 : decode cX1_init 14 = .ok (.aload_n 0, 1) := by decide +kernel
theorem dX1_init_15 : decode cX1_init 15 = .ok (.iload_n 3, 1) := by decide +kernel
theorem dX1_init_16 : decode cX1_init 16 = .ok (.putfield 16, 3) := by decide +kernel
theorem dX1_init_19 : decode cX1_init 19 = .ok (.aload_n 0, 1) := by decide +kernel
theorem dX1_init_20 : decode cX1_init 20 = .ok (.lload 4, 2) := by decide +kernel
theorem dX1_init_22 : decode cX1_init 22 = .ok (.putfield 19, 3) := by decide +kernel
theorem dX1_init_25 : decode cX1_init 25 = .ok (.aload_n 0, 1) := by decide +kernel
theorem dX1_init_26 : decode cX1_init 26 = .ok (.lload 6, 2) := by decide +kernel
theorem dX1_init_28 : decode cX1_init 28 = .ok (.putfield 23, 3) := by decide +kernel
theorem dX1_init_31 : decode cX1_init 31 = .ok (.return_, 1) := by decide +kernel
theorem dX1_kind_0 : decode cX1_kind 0 = .ok (.iconst 0, 1) := by decide +kernel
theorem dX1_kind_1 : decode cX1_kind 1 = .ok (.ireturn, 1) := by decide +kernel
theorem dX1_learntBy_0 : decode cX1_learntBy 0 = .ok (.aload_n 0, 1) := by decide +kernel
theorem dX1_learntBy_1 : decode cX1_learntBy 1 = .ok (.getfield 23, 3) := by decide +kernel
theorem dX1_learntBy_4 : decode cX1_learntBy 4 = .ok (.iload_n 1, 1) := by decide +kernel
theorem dX1_learntBy_5 : decode cX1_learntBy 5 = .ok (.invokestatic 26, 3) := by decide +kernel
theorem dX1_learntBy_8 : decode cX1_learntBy 8 = .ok (.aload_n 0, 1) := by decide +kernel
theorem dX1_learntBy_9 : decode cX1_learntBy 9 = .ok (.getfield 19, 3) := by decide +kernel
theorem dX1_learntBy_12 : decode cX1_learntBy 12 = .ok (.iload_n 1, 1) := by decide +kernel
theorem dX1_learntBy_13 : decode cX1_learntBy 13 = .ok (.invokestatic 26, 3) := by decide +kernel
theorem dX1_learntBy_16 : decode cX1_learntBy 16 = .ok (.iconst (-1), 1) := by decide +kernel
theorem dX1_learntBy_17 : decode cX1_learntBy 17 = .ok (.ixor, 1) := by decide +kernel
theorem dX1_learntBy_18 : decode cX1_learntBy 18 = .ok (.iand, 1) := by decide +kernel
theorem dX1_learntBy_19 : decode cX1_learntBy 19 = .ok (.ireturn, 1) := by decide +kernel
theorem dX1_telling_0 : decode cX1_telling 0 = .ok (.aload_n 0, 1) := by decide +kernel
theorem dX1_telling_1 : decode cX1_telling 1 = .ok (.aload_n 1, 1) := by decide +kernel
theorem dX1_telling_2 : decode cX1_telling 2 = .ok (.invokevirtual 32, 3) := by decide +kernel
theorem dX1_telling_5 : decode cX1_telling 5 = .ok (.ireturn, 1) := by decide +kernel
theorem dX1_plainTelling_0 : decode cX1_plainTelling 0 = .ok (.aload_n 1, 1) := by decide +kernel
theorem dX1_plainTelling_1 : decode cX1_plainTelling 1 = .ok (.iconst 1, 1) := by decide +kernel
theorem dX1_plainTelling_2 : decode cX1_plainTelling 2 = .ok (.invokevirtual 36, 3) := by decide +kernel
theorem dX1_plainTelling_5 : decode cX1_plainTelling 5 = .ok (.bipush 10, 2) := by decide +kernel
theorem dX1_plainTelling_7 : decode cX1_plainTelling 7 = .ok (.aload_n 0, 1) := by decide +kernel
theorem dX1_plainTelling_8 : decode cX1_plainTelling 8 = .ok (.getfield 13, 3) := by decide +kernel
theorem dX1_plainTelling_11 : decode cX1_plainTelling 11 = .ok (.imul, 1) := by decide +kernel
theorem dX1_plainTelling_12 : decode cX1_plainTelling 12 = .ok (.aload_n 0, 1) := by decide +kernel
theorem dX1_plainTelling_13 : decode cX1_plainTelling 13 = .ok (.getfield 16, 3) := by decide +kernel
theorem dX1_plainTelling_16 : decode cX1_plainTelling 16 = .ok (.iadd, 1) := by decide +kernel
theorem dX1_plainTelling_17 : decode cX1_plainTelling 17 = .ok (.ireturn, 1) := by decide +kernel
theorem dX1_logged_0 : decode cX1_logged 0 = .ok (.aload_n 1, 1) := by decide +kernel
theorem dX1_logged_1 : decode cX1_logged 1 = .ok (.iconst 4, 1) := by decide +kernel
theorem dX1_logged_2 : decode cX1_logged 2 = .ok (.invokevirtual 36, 3) := by decide +kernel
theorem dX1_logged_5 : decode cX1_logged 5 = .ok (.aload_n 0, 1) := by decide +kernel
theorem dX1_logged_6 : decode cX1_logged 6 = .ok (.getfield 7, 3) := by decide +kernel
theorem dX1_logged_9 : decode cX1_logged 9 = .ok (.ireturn, 1) := by decide +kernel
theorem dX2_chosen_0 : decode cX2_chosen 0 = .ok (.iconst 0, 1) := by decide +kernel
theorem dX2_chosen_1 : decode cX2_chosen 1 = .ok (.istore_n 2, 1) := by decide +kernel
theorem dX2_chosen_2 : decode cX2_chosen 2 = .ok (.iconst 0, 1) := by decide +kernel
theorem dX2_chosen_3 : decode cX2_chosen 3 = .ok (.istore_n 3, 1) := by decide +kernel
theorem dX2_chosen_4 : decode cX2_chosen 4 = .ok (.iconst 0, 1) := by decide +kernel
theorem dX2_chosen_5 : decode cX2_chosen 5 = .ok (.istore 4, 2) := by decide +kernel
theorem dX2_chosen_7 : decode cX2_chosen 7 = .ok (.iload 4, 2) := by decide +kernel
theorem dX2_chosen_9 : decode cX2_chosen 9 = .ok (.iload_n 0, 1) := by decide +kernel
theorem dX2_chosen_10 : decode cX2_chosen 10 = .ok (.if_icmp .ge 61, 3) := by decide +kernel
theorem dX2_chosen_13 : decode cX2_chosen 13 = .ok (.iconst 0, 1) := by decide +kernel
theorem dX2_chosen_14 : decode cX2_chosen 14 = .ok (.istore 5, 2) := by decide +kernel
theorem dX2_chosen_16 : decode cX2_chosen 16 = .ok (.iload 5, 2) := by decide +kernel
theorem dX2_chosen_18 : decode cX2_chosen 18 = .ok (.iload_n 0, 1) := by decide +kernel
theorem dX2_chosen_19 : decode cX2_chosen 19 = .ok (.if_icmp .ge 46, 3) := by decide +kernel
theorem dX2_chosen_22 : decode cX2_chosen 22 = .ok (.iload 4, 2) := by decide +kernel
theorem dX2_chosen_24 : decode cX2_chosen 24 = .ok (.iload 5, 2) := by decide +kernel
theorem dX2_chosen_26 : decode cX2_chosen 26 = .ok (.if_icmp .eq 11, 3) := by decide +kernel
theorem dX2_chosen_29 : decode cX2_chosen 29 = .ok (.iload_n 1, 1) := by decide +kernel
theorem dX2_chosen_30 : decode cX2_chosen 30 = .ok (.iload_n 3, 1) := by decide +kernel
theorem dX2_chosen_31 : decode cX2_chosen 31 = .ok (.invokestatic 7, 3) := by decide +kernel
theorem dX2_chosen_34 : decode cX2_chosen 34 = .ok (.ifCond .eq 15, 3) := by decide +kernel
theorem dX2_chosen_37 : decode cX2_chosen 37 = .ok (.iload_n 2, 1) := by decide +kernel
theorem dX2_chosen_38 : decode cX2_chosen 38 = .ok (.iconst 1, 1) := by decide +kernel
theorem dX2_chosen_39 : decode cX2_chosen 39 = .ok (.iload 4, 2) := by decide +kernel
theorem dX2_chosen_41 : decode cX2_chosen 41 = .ok (.iload 5, 2) := by decide +kernel
theorem dX2_chosen_43 : decode cX2_chosen 43 = .ok (.invokestatic 13, 3) := by decide +kernel
theorem dX2_chosen_46 : decode cX2_chosen 46 = .ok (.ishl, 1) := by decide +kernel
theorem dX2_chosen_47 : decode cX2_chosen 47 = .ok (.ior, 1) := by decide +kernel
theorem dX2_chosen_48 : decode cX2_chosen 48 = .ok (.istore_n 2, 1) := by decide +kernel
theorem dX2_chosen_49 : decode cX2_chosen 49 = .ok (.iload 4, 2) := by decide +kernel
theorem dX2_chosen_51 : decode cX2_chosen 51 = .ok (.iload 5, 2) := by decide +kernel
theorem dX2_chosen_53 : decode cX2_chosen 53 = .ok (.if_icmp .eq 6, 3) := by decide +kernel
theorem dX2_chosen_56 : decode cX2_chosen 56 = .ok (.iinc 3 1, 3) := by decide +kernel
theorem dX2_chosen_59 : decode cX2_chosen 59 = .ok (.iinc 5 1, 3) := by decide +kernel
theorem dX2_chosen_62 : decode cX2_chosen 62 = .ok (.goto (-46), 3) := by decide +kernel
theorem dX2_chosen_65 : decode cX2_chosen 65 = .ok (.iinc 4 1, 3) := by decide +kernel
theorem dX2_chosen_68 : decode cX2_chosen 68 = .ok (.goto (-61), 3) := by decide +kernel
theorem dX2_chosen_71 : decode cX2_chosen 71 = .ok (.iload_n 2, 1) := by decide +kernel
theorem dX2_chosen_72 : decode cX2_chosen 72 = .ok (.ireturn, 1) := by decide +kernel
theorem dX2_isJoined_0 : decode cX2_isJoined 0 = .ok (.iload_n 1, 1) := by decide +kernel
theorem dX2_isJoined_1 : decode cX2_isJoined 1 = .ok (.istore_n 2, 1) := by decide +kernel
theorem dX2_isJoined_2 : decode cX2_isJoined 2 = .ok (.iconst 0, 1) := by decide +kernel
theorem dX2_isJoined_3 : decode cX2_isJoined 3 = .ok (.istore_n 3, 1) := by decide +kernel
theorem dX2_isJoined_4 : decode cX2_isJoined 4 = .ok (.iload_n 3, 1) := by decide +kernel
theorem dX2_isJoined_5 : decode cX2_isJoined 5 = .ok (.iload_n 0, 1) := by decide +kernel
theorem dX2_isJoined_6 : decode cX2_isJoined 6 = .ok (.if_icmp .ge 48, 3) := by decide +kernel
theorem dX2_isJoined_9 : decode cX2_isJoined 9 = .ok (.iconst 0, 1) := by decide +kernel
theorem dX2_isJoined_10 : decode cX2_isJoined 10 = .ok (.istore 4, 2) := by decide +kernel
theorem dX2_isJoined_12 : decode cX2_isJoined 12 = .ok (.iload 4, 2) := by decide +kernel
theorem dX2_isJoined_14 : decode cX2_isJoined 14 = .ok (.iload_n 0, 1) := by decide +kernel
theorem dX2_isJoined_15 : decode cX2_isJoined 15 = .ok (.if_icmp .ge 33, 3) := by decide +kernel
theorem dX2_isJoined_18 : decode cX2_isJoined 18 = .ok (.iload_n 1, 1) := by decide +kernel
theorem dX2_isJoined_19 : decode cX2_isJoined 19 = .ok (.iload_n 3, 1) := by decide +kernel
theorem dX2_isJoined_20 : decode cX2_isJoined 20 = .ok (.iload 4, 2) := by decide +kernel
theorem dX2_isJoined_22 : decode cX2_isJoined 22 = .ok (.invokestatic 13, 3) := by decide +kernel
theorem dX2_isJoined_25 : decode cX2_isJoined 25 = .ok (.invokestatic 7, 3) := by decide +kernel
theorem dX2_isJoined_28 : decode cX2_isJoined 28 = .ok (.ifCond .eq 14, 3) := by decide +kernel
theorem dX2_isJoined_31 : decode cX2_isJoined 31 = .ok (.iload_n 2, 1) := by decide +kernel
theorem dX2_isJoined_32 : decode cX2_isJoined 32 = .ok (.iconst 1, 1) := by decide +kernel
theorem dX2_isJoined_33 : decode cX2_isJoined 33 = .ok (.iload 4, 2) := by decide +kernel
theorem dX2_isJoined_35 : decode cX2_isJoined 35 = .ok (.iload_n 3, 1) := by decide +kernel
theorem dX2_isJoined_36 : decode cX2_isJoined 36 = .ok (.invokestatic 13, 3) := by decide +kernel
theorem dX2_isJoined_39 : decode cX2_isJoined 39 = .ok (.ishl, 1) := by decide +kernel
theorem dX2_isJoined_40 : decode cX2_isJoined 40 = .ok (.ior, 1) := by decide +kernel
theorem dX2_isJoined_41 : decode cX2_isJoined 41 = .ok (.istore_n 2, 1) := by decide +kernel
theorem dX2_isJoined_42 : decode cX2_isJoined 42 = .ok (.iinc 4 1, 3) := by decide +kernel
theorem dX2_isJoined_45 : decode cX2_isJoined 45 = .ok (.goto (-33), 3) := by decide +kernel
theorem dX2_isJoined_48 : decode cX2_isJoined 48 = .ok (.iinc 3 1, 3) := by decide +kernel
theorem dX2_isJoined_51 : decode cX2_isJoined 51 = .ok (.goto (-47), 3) := by decide +kernel
theorem dX2_isJoined_54 : decode cX2_isJoined 54 = .ok (.iload_n 0, 1) := by decide +kernel
theorem dX2_isJoined_55 : decode cX2_isJoined 55 = .ok (.iload_n 2, 1) := by decide +kernel
theorem dX2_isJoined_56 : decode cX2_isJoined 56 = .ok (.iconst 0, 1) := by decide +kernel
theorem dX2_isJoined_57 : decode cX2_isJoined 57 = .ok (.invokestatic 17, 3) := by decide +kernel
theorem dX2_isJoined_60 : decode cX2_isJoined 60 = .ok (.iconst 1, 1) := by decide +kernel
theorem dX2_isJoined_61 : decode cX2_isJoined 61 = .ok (.iload_n 0, 1) := by decide +kernel
theorem dX2_isJoined_62 : decode cX2_isJoined 62 = .ok (.ishl, 1) := by decide +kernel
theorem dX2_isJoined_63 : decode cX2_isJoined 63 = .ok (.iconst 1, 1) := by decide +kernel
theorem dX2_isJoined_64 : decode cX2_isJoined 64 = .ok (.isub, 1) := by decide +kernel
theorem dX2_isJoined_65 : decode cX2_isJoined 65 = .ok (.if_icmp .ne 7, 3) := by decide +kernel
theorem dX2_isJoined_68 : decode cX2_isJoined 68 = .ok (.iconst 1, 1) := by decide +kernel
theorem dX2_isJoined_69 : decode cX2_isJoined 69 = .ok (.goto 4, 3) := by decide +kernel
theorem dX2_isJoined_72 : decode cX2_isJoined 72 = .ok (.iconst 0, 1) := by decide +kernel
theorem dX2_isJoined_73 : decode cX2_isJoined 73 = .ok (.ireturn, 1) := by decide +kernel
theorem dX2_bridges_0 : decode cX2_bridges 0 = .ok (.iconst 0, 1) := by decide +kernel
theorem dX2_bridges_1 : decode cX2_bridges 1 = .ok (.istore_n 2, 1) := by decide +kernel
theorem dX2_bridges_2 : decode cX2_bridges 2 = .ok (.iconst 0, 1) := by decide +kernel
theorem dX2_bridges_3 : decode cX2_bridges 3 = .ok (.istore_n 3, 1) := by decide +kernel
theorem dX2_bridges_4 : decode cX2_bridges 4 = .ok (.iload_n 3, 1) := by decide +kernel
theorem dX2_bridges_5 : decode cX2_bridges 5 = .ok (.iload_n 0, 1) := by decide +kernel
theorem dX2_bridges_6 : decode cX2_bridges 6 = .ok (.if_icmp .ge 68, 3) := by decide +kernel
theorem dX2_bridges_9 : decode cX2_bridges 9 = .ok (.iconst 0, 1) := by decide +kernel
theorem dX2_bridges_10 : decode cX2_bridges 10 = .ok (.istore 4, 2) := by decide +kernel
theorem dX2_bridges_12 : decode cX2_bridges 12 = .ok (.iload 4, 2) := by decide +kernel
theorem dX2_bridges_14 : decode cX2_bridges 14 = .ok (.iload_n 0, 1) := by decide +kernel
theorem dX2_bridges_15 : decode cX2_bridges 15 = .ok (.if_icmp .ge 53, 3) := by decide +kernel
theorem dX2_bridges_18 : decode cX2_bridges 18 = .ok (.iconst 1, 1) := by decide +kernel
theorem dX2_bridges_19 : decode cX2_bridges 19 = .ok (.iload_n 3, 1) := by decide +kernel
theorem dX2_bridges_20 : decode cX2_bridges 20 = .ok (.iload 4, 2) := by decide +kernel
theorem dX2_bridges_22 : decode cX2_bridges 22 = .ok (.invokestatic 13, 3) := by decide +kernel
theorem dX2_bridges_25 : decode cX2_bridges 25 = .ok (.ishl, 1) := by decide +kernel
theorem dX2_bridges_26 : decode cX2_bridges 26 = .ok (.istore 5, 2) := by decide +kernel
theorem dX2_bridges_28 : decode cX2_bridges 28 = .ok (.iload_n 3, 1) := by decide +kernel
theorem dX2_bridges_29 : decode cX2_bridges 29 = .ok (.iload 4, 2) := by decide +kernel
theorem dX2_bridges_31 : decode cX2_bridges 31 = .ok (.if_icmp .eq 31, 3) := by decide +kernel
theorem dX2_bridges_34 : decode cX2_bridges 34 = .ok (.iload_n 1, 1) := by decide +kernel
theorem dX2_bridges_35 : decode cX2_bridges 35 = .ok (.iload 5, 2) := by decide +kernel
theorem dX2_bridges_37 : decode cX2_bridges 37 = .ok (.iand, 1) := by decide +kernel
theorem dX2_bridges_38 : decode cX2_bridges 38 = .ok (.ifCond .ne 6, 3) := by decide +kernel
theorem dX2_bridges_41 : decode cX2_bridges 41 = .ok (.goto 21, 3) := by decide +kernel
theorem dX2_bridges_44 : decode cX2_bridges 44 = .ok (.iload_n 0, 1) := by decide +kernel
theorem dX2_bridges_45 : decode cX2_bridges 45 = .ok (.iload_n 1, 1) := by decide +kernel
theorem dX2_bridges_46 : decode cX2_bridges 46 = .ok (.iload 5, 2) := by decide +kernel
theorem dX2_bridges_48 : decode cX2_bridges 48 = .ok (.iconst (-1), 1) := by decide +kernel
theorem dX2_bridges_49 : decode cX2_bridges 49 = .ok (.ixor, 1) := by decide +kernel
theorem dX2_bridges_50 : decode cX2_bridges 50 = .ok (.iand, 1) := by decide +kernel
theorem dX2_bridges_51 : decode cX2_bridges 51 = .ok (.invokestatic 23, 3) := by decide +kernel
theorem dX2_bridges_54 : decode cX2_bridges 54 = .ok (.ifCond .ne 8, 3) := by decide +kernel
theorem dX2_bridges_57 : decode cX2_bridges 57 = .ok (.iload_n 2, 1) := by decide +kernel
theorem dX2_bridges_58 : decode cX2_bridges 58 = .ok (.iload 5, 2) := by decide +kernel
theorem dX2_bridges_60 : decode cX2_bridges 60 = .ok (.ior, 1) := by decide +kernel
theorem dX2_bridges_61 : decode cX2_bridges 61 = .ok (.istore_n 2, 1) := by decide +kernel
theorem dX2_bridges_62 : decode cX2_bridges 62 = .ok (.iinc 4 1, 3) := by decide +kernel
theorem dX2_bridges_65 : decode cX2_bridges 65 = .ok (.goto (-53), 3) := by decide +kernel
theorem dX2_bridges_68 : decode cX2_bridges 68 = .ok (.iinc 3 1, 3) := by decide +kernel
theorem dX2_bridges_71 : decode cX2_bridges 71 = .ok (.goto (-67), 3) := by decide +kernel
theorem dX2_bridges_74 : decode cX2_bridges 74 = .ok (.iload_n 2, 1) := by decide +kernel
theorem dX2_bridges_75 : decode cX2_bridges 75 = .ok (.ireturn, 1) := by decide +kernel
theorem dX2_isSun_0 : decode cX2_isSun 0 = .ok (.iconst 0, 1) := by decide +kernel
theorem dX2_isSun_1 : decode cX2_isSun 1 = .ok (.istore_n 2, 1) := by decide +kernel
theorem dX2_isSun_2 : decode cX2_isSun 2 = .ok (.iconst 0, 1) := by decide +kernel
theorem dX2_isSun_3 : decode cX2_isSun 3 = .ok (.istore_n 3, 1) := by decide +kernel
theorem dX2_isSun_4 : decode cX2_isSun 4 = .ok (.iload_n 3, 1) := by decide +kernel
theorem dX2_isSun_5 : decode cX2_isSun 5 = .ok (.iload_n 0, 1) := by decide +kernel
theorem dX2_isSun_6 : decode cX2_isSun 6 = .ok (.if_icmp .ge 29, 3) := by decide +kernel
theorem dX2_isSun_9 : decode cX2_isSun 9 = .ok (.iload_n 1, 1) := by decide +kernel
theorem dX2_isSun_10 : decode cX2_isSun 10 = .ok (.iload_n 3, 1) := by decide +kernel
theorem dX2_isSun_11 : decode cX2_isSun 11 = .ok (.invokestatic 26, 3) := by decide +kernel
theorem dX2_isSun_14 : decode cX2_isSun 14 = .ok (.iconst 1, 1) := by decide +kernel
theorem dX2_isSun_15 : decode cX2_isSun 15 = .ok (.iload_n 3, 1) := by decide +kernel
theorem dX2_isSun_16 : decode cX2_isSun 16 = .ok (.ishl, 1) := by decide +kernel
theorem dX2_isSun_17 : decode cX2_isSun 17 = .ok (.iconst (-1), 1) := by decide +kernel
theorem dX2_isSun_18 : decode cX2_isSun 18 = .ok (.ixor, 1) := by decide +kernel
theorem dX2_isSun_19 : decode cX2_isSun 19 = .ok (.iand, 1) := by decide +kernel
theorem dX2_isSun_20 : decode cX2_isSun 20 = .ok (.ifCond .eq 9, 3) := by decide +kernel
theorem dX2_isSun_23 : decode cX2_isSun 23 = .ok (.iload_n 2, 1) := by decide +kernel
theorem dX2_isSun_24 : decode cX2_isSun 24 = .ok (.iconst 1, 1) := by decide +kernel
theorem dX2_isSun_25 : decode cX2_isSun 25 = .ok (.iload_n 3, 1) := by decide +kernel
theorem dX2_isSun_26 : decode cX2_isSun 26 = .ok (.ishl, 1) := by decide +kernel
theorem dX2_isSun_27 : decode cX2_isSun 27 = .ok (.ior, 1) := by decide +kernel
theorem dX2_isSun_28 : decode cX2_isSun 28 = .ok (.istore_n 2, 1) := by decide +kernel
theorem dX2_isSun_29 : decode cX2_isSun 29 = .ok (.iinc 3 1, 3) := by decide +kernel
theorem dX2_isSun_32 : decode cX2_isSun 32 = .ok (.goto (-28), 3) := by decide +kernel
theorem dX2_isSun_35 : decode cX2_isSun 35 = .ok (.iconst 0, 1) := by decide +kernel
theorem dX2_isSun_36 : decode cX2_isSun 36 = .ok (.istore_n 3, 1) := by decide +kernel
theorem dX2_isSun_37 : decode cX2_isSun 37 = .ok (.iload_n 3, 1) := by decide +kernel
theorem dX2_isSun_38 : decode cX2_isSun 38 = .ok (.iload_n 0, 1) := by decide +kernel
theorem dX2_isSun_39 : decode cX2_isSun 39 = .ok (.if_icmp .ge 24, 3) := by decide +kernel
theorem dX2_isSun_42 : decode cX2_isSun 42 = .ok (.iload_n 2, 1) := by decide +kernel
theorem dX2_isSun_43 : decode cX2_isSun 43 = .ok (.iload_n 0, 1) := by decide +kernel
theorem dX2_isSun_44 : decode cX2_isSun 44 = .ok (.iload_n 1, 1) := by decide +kernel
theorem dX2_isSun_45 : decode cX2_isSun 45 = .ok (.iload_n 3, 1) := by decide +kernel
theorem dX2_isSun_46 : decode cX2_isSun 46 = .ok (.invokestatic 17, 3) := by decide +kernel
theorem dX2_isSun_49 : decode cX2_isSun 49 = .ok (.iconst (-1), 1) := by decide +kernel
theorem dX2_isSun_50 : decode cX2_isSun 50 = .ok (.ixor, 1) := by decide +kernel
theorem dX2_isSun_51 : decode cX2_isSun 51 = .ok (.iand, 1) := by decide +kernel
theorem dX2_isSun_52 : decode cX2_isSun 52 = .ok (.ifCond .eq 5, 3) := by decide +kernel
theorem dX2_isSun_55 : decode cX2_isSun 55 = .ok (.iconst 0, 1) := by decide +kernel
theorem dX2_isSun_56 : decode cX2_isSun 56 = .ok (.ireturn, 1) := by decide +kernel
theorem dX2_isSun_57 : decode cX2_isSun 57 = .ok (.iinc 3 1, 3) := by decide +kernel
theorem dX2_isSun_60 : decode cX2_isSun 60 = .ok (.goto (-23), 3) := by decide +kernel
theorem dX2_isSun_63 : decode cX2_isSun 63 = .ok (.iconst 1, 1) := by decide +kernel
theorem dX2_isSun_64 : decode cX2_isSun 64 = .ok (.ireturn, 1) := by decide +kernel
theorem dX2_reach_0 : decode cX2_reach 0 = .ok (.iconst 1, 1) := by decide +kernel
theorem dX2_reach_1 : decode cX2_reach 1 = .ok (.iload_n 2, 1) := by decide +kernel
theorem dX2_reach_2 : decode cX2_reach 2 = .ok (.ishl, 1) := by decide +kernel
theorem dX2_reach_3 : decode cX2_reach 3 = .ok (.istore_n 3, 1) := by decide +kernel
theorem dX2_reach_4 : decode cX2_reach 4 = .ok (.iconst 0, 1) := by decide +kernel
theorem dX2_reach_5 : decode cX2_reach 5 = .ok (.istore 4, 2) := by decide +kernel
theorem dX2_reach_7 : decode cX2_reach 7 = .ok (.iload 4, 2) := by decide +kernel
theorem dX2_reach_9 : decode cX2_reach 9 = .ok (.iload_n 0, 1) := by decide +kernel
theorem dX2_reach_10 : decode cX2_reach 10 = .ok (.if_icmp .ge 42, 3) := by decide +kernel
theorem dX2_reach_13 : decode cX2_reach 13 = .ok (.iconst 0, 1) := by decide +kernel
theorem dX2_reach_14 : decode cX2_reach 14 = .ok (.istore 5, 2) := by decide +kernel
theorem dX2_reach_16 : decode cX2_reach 16 = .ok (.iload 5, 2) := by decide +kernel
theorem dX2_reach_18 : decode cX2_reach 18 = .ok (.iload_n 0, 1) := by decide +kernel
theorem dX2_reach_19 : decode cX2_reach 19 = .ok (.if_icmp .ge 27, 3) := by decide +kernel
theorem dX2_reach_22 : decode cX2_reach 22 = .ok (.iload_n 3, 1) := by decide +kernel
theorem dX2_reach_23 : decode cX2_reach 23 = .ok (.iload 5, 2) := by decide +kernel
theorem dX2_reach_25 : decode cX2_reach 25 = .ok (.invokestatic 7, 3) := by decide +kernel
theorem dX2_reach_28 : decode cX2_reach 28 = .ok (.ifCond .eq 12, 3) := by decide +kernel
theorem dX2_reach_31 : decode cX2_reach 31 = .ok (.iload_n 3, 1) := by decide +kernel
theorem dX2_reach_32 : decode cX2_reach 32 = .ok (.iload_n 1, 1) := by decide +kernel
theorem dX2_reach_33 : decode cX2_reach 33 = .ok (.iload 5, 2) := by decide +kernel
theorem dX2_reach_35 : decode cX2_reach 35 = .ok (.invokestatic 26, 3) := by decide +kernel
theorem dX2_reach_38 : decode cX2_reach 38 = .ok (.ior, 1) := by decide +kernel
theorem dX2_reach_39 : decode cX2_reach 39 = .ok (.istore_n 3, 1) := by decide +kernel
theorem dX2_reach_40 : decode cX2_reach 40 = .ok (.iinc 5 1, 3) := by decide +kernel
theorem dX2_reach_43 : decode cX2_reach 43 = .ok (.goto (-27), 3) := by decide +kernel
theorem dX2_reach_46 : decode cX2_reach 46 = .ok (.iinc 4 1, 3) := by decide +kernel
theorem dX2_reach_49 : decode cX2_reach 49 = .ok (.goto (-42), 3) := by decide +kernel
theorem dX2_reach_52 : decode cX2_reach 52 = .ok (.iload_n 3, 1) := by decide +kernel
theorem dX2_reach_53 : decode cX2_reach 53 = .ok (.ireturn, 1) := by decide +kernel
theorem dX3_init_0 : decode cX3_init 0 = .ok (.aload_n 0, 1) := by decide +kernel
theorem dX3_init_1 : decode cX3_init 1 = .ok (.invokespecial 3, 3) := by decide +kernel
theorem dX3_init_4 : decode cX3_init 4 = .ok (.return_, 1) := by decide +kernel
theorem dX3_read_0 : decode cX3_read 0 = .ok (.aload_n 0, 1) := by decide +kernel
theorem dX3_read_1 : decode cX3_read 1 = .ok (.aload_n 1, 1) := by decide +kernel
theorem dX3_read_2 : decode cX3_read 2 = .ok (.iload_n 2, 1) := by decide +kernel
theorem dX3_read_3 : decode cX3_read 3 = .ok (.iload_n 3, 1) := by decide +kernel
theorem dX3_read_4 : decode cX3_read 4 = .ok (.invokevirtual 9, 3) := by decide +kernel
theorem dX3_read_7 : decode cX3_read 7 = .ok (.istore 4, 2) := by decide +kernel
theorem dX3_read_9 : decode cX3_read 9 = .ok (.iload 4, 2) := by decide +kernel
theorem dX3_read_11 : decode cX3_read 11 = .ok (.ifCond .lt 8, 3) := by decide +kernel
theorem dX3_read_14 : decode cX3_read 14 = .ok (.iload 4, 2) := by decide +kernel
theorem dX3_read_16 : decode cX3_read 16 = .ok (.goto 10, 3) := by decide +kernel
theorem dX3_read_19 : decode cX3_read 19 = .ok (.aload_n 0, 1) := by decide +kernel
theorem dX3_read_20 : decode cX3_read 20 = .ok (.aload_n 1, 1) := by decide +kernel
theorem dX3_read_21 : decode cX3_read 21 = .ok (.iload_n 2, 1) := by decide +kernel
theorem dX3_read_22 : decode cX3_read 22 = .ok (.iload_n 3, 1) := by decide +kernel
theorem dX3_read_23 : decode cX3_read 23 = .ok (.invokevirtual 15, 3) := by decide +kernel
theorem dX3_read_26 : decode cX3_read 26 = .ok (.ireturn, 1) := by decide +kernel
theorem dX3_firstBroken_0 : decode cX3_firstBroken 0 = .ok (.iconst 1, 1) := by decide +kernel
theorem dX3_firstBroken_1 : decode cX3_firstBroken 1 = .ok (.istore 4, 2) := by decide +kernel
theorem dX3_firstBroken_3 : decode cX3_firstBroken 3 = .ok (.iconst 0, 1) := by decide +kernel
theorem dX3_firstBroken_4 : decode cX3_firstBroken 4 = .ok (.istore 5, 2) := by decide +kernel
theorem dX3_firstBroken_6 : decode cX3_firstBroken 6 = .ok (.iload 5, 2) := by decide +kernel
theorem dX3_firstBroken_8 : decode cX3_firstBroken 8 = .ok (.iload_n 3, 1) := by decide +kernel
theorem dX3_firstBroken_9 : decode cX3_firstBroken 9 = .ok (.if_icmp .ge 80, 3) := by decide +kernel
theorem dX3_firstBroken_12 : decode cX3_firstBroken 12 = .ok (.aload_n 1, 1) := by decide +kernel
theorem dX3_firstBroken_13 : decode cX3_firstBroken 13 = .ok (.iload_n 2, 1) := by decide +kernel
theorem dX3_firstBroken_14 : decode cX3_firstBroken 14 = .ok (.iload 5, 2) := by decide +kernel
theorem dX3_firstBroken_16 : decode cX3_firstBroken 16 = .ok (.iadd, 1) := by decide +kernel
theorem dX3_firstBroken_17 : decode cX3_firstBroken 17 = .ok (.invokevirtual 18, 3) := by decide +kernel
theorem dX3_firstBroken_20 : decode cX3_firstBroken 20 = .ok (.istore 6, 2) := by decide +kernel
theorem dX3_firstBroken_22 : decode cX3_firstBroken 22 = .ok (.iload 4, 2) := by decide +kernel
theorem dX3_firstBroken_24 : decode cX3_firstBroken 24 = .ok (.ifCond .eq 23, 3) := by decide +kernel
theorem dX3_firstBroken_27 : decode cX3_firstBroken 27 = .ok (.iload 6, 2) := by decide +kernel
theorem dX3_firstBroken_29 : decode cX3_firstBroken 29 = .ok (.bipush 112, 2) := by decide +kernel
theorem dX3_firstBroken_31 : decode cX3_firstBroken 31 = .ok (.if_icmp .eq 6, 3) := by decide +kernel
theorem dX3_firstBroken_34 : decode cX3_firstBroken 34 = .ok (.iload 5, 2) := by decide +kernel
theorem dX3_firstBroken_36 : decode cX3_firstBroken 36 = .ok (.ireturn, 1) := by decide +kernel
theorem dX3_firstBroken_37 : decode cX3_firstBroken 37 = .ok (.aload_n 0, 1) := by decide +kernel
theorem dX3_firstBroken_38 : decode cX3_firstBroken 38 = .ok (.invokevirtual 24, 3) := by decide +kernel
theorem dX3_firstBroken_41 : decode cX3_firstBroken 41 = .ok (.iconst 0, 1) := by decide +kernel
theorem dX3_firstBroken_42 : decode cX3_firstBroken 42 = .ok (.istore 4, 2) := by decide +kernel
theorem dX3_firstBroken_44 : decode cX3_firstBroken 44 = .ok (.goto 39, 3) := by decide +kernel
theorem dX3_firstBroken_47 : decode cX3_firstBroken 47 = .ok (.iload 6, 2) := by decide +kernel
theorem dX3_firstBroken_49 : decode cX3_firstBroken 49 = .ok (.bipush 59, 2) := by decide +kernel
theorem dX3_firstBroken_51 : decode cX3_firstBroken 51 = .ok (.if_icmp .ne 20, 3) := by decide +kernel
theorem dX3_firstBroken_54 : decode cX3_firstBroken 54 = .ok (.aload_n 0, 1) := by decide +kernel
theorem dX3_firstBroken_55 : decode cX3_firstBroken 55 = .ok (.getfield 27, 3) := by decide +kernel
theorem dX3_firstBroken_58 : decode cX3_firstBroken 58 = .ok (.iconst 4, 1) := by decide +kernel
theorem dX3_firstBroken_59 : decode cX3_firstBroken 59 = .ok (.if_icmp .ne 6, 3) := by decide +kernel
theorem dX3_firstBroken_62 : decode cX3_firstBroken 62 = .ok (.iload 5, 2) := by decide +kernel
theorem dX3_firstBroken_64 : decode cX3_firstBroken 64 = .ok (.ireturn, 1) := by decide +kernel
theorem dX3_firstBroken_65 : decode cX3_firstBroken 65 = .ok (.iconst 1, 1) := by decide +kernel
theorem dX3_firstBroken_66 : decode cX3_firstBroken 66 = .ok (.istore 4, 2) := by decide +kernel
theorem dX3_firstBroken_68 : decode cX3_firstBroken 68 = .ok (.goto 15, 3) := by decide +kernel
theorem dX3_firstBroken_71 : decode cX3_firstBroken 71 = .ok (.aload_n 0, 1) := by decide +kernel
theorem dX3_firstBroken_72 : decode cX3_firstBroken 72 = .ok (.iload 6, 2) := by decide +kernel
theorem dX3_firstBroken_74 : decode cX3_firstBroken 74 = .ok (.invokevirtual 31, 3) := by decide +kernel
theorem dX3_firstBroken_77 : decode cX3_firstBroken 77 = .ok (.ifCond .ne 6, 3) := by decide +kernel
theorem dX3_firstBroken_80 : decode cX3_firstBroken 80 = .ok (.iload 5, 2) := by decide +kernel
theorem dX3_firstBroken_82 : decode cX3_firstBroken 82 = .ok (.ireturn, 1) := by decide +kernel
theorem dX3_firstBroken_83 : decode cX3_firstBroken 83 = .ok (.iinc 5 1, 3) := by decide +kernel
theorem dX3_firstBroken_86 : decode cX3_firstBroken 86 = .ok (.goto (-80), 3) := by decide +kernel
theorem dX3_firstBroken_89 : decode cX3_firstBroken 89 = .ok (.iload 4, 2) := by decide +kernel
theorem dX3_firstBroken_91 : decode cX3_firstBroken 91 = .ok (.ifCond .eq 7, 3) := by decide +kernel
theorem dX3_firstBroken_94 : decode cX3_firstBroken 94 = .ok (.iload_n 3, 1) := by decide +kernel
theorem dX3_firstBroken_95 : decode cX3_firstBroken 95 = .ok (.goto 4, 3) := by decide +kernel
theorem dX3_firstBroken_98 : decode cX3_firstBroken 98 = .ok (.iconst (-1), 1) := by decide +kernel
theorem dX3_firstBroken_99 : decode cX3_firstBroken 99 = .ok (.ireturn, 1) := by decide +kernel
theorem dX3_beginItem_0 : decode cX3_beginItem 0 = .ok (.aload_n 0, 1) := by decide +kernel
theorem dX3_beginItem_1 : decode cX3_beginItem 1 = .ok (.dup, 1) := by decide +kernel
theorem dX3_beginItem_2 : decode cX3_beginItem 2 = .ok (.getfield 35, 3) := by decide +kernel
theorem dX3_beginItem_5 : decode cX3_beginItem 5 = .ok (.iconst 1, 1) := by decide +kernel
theorem dX3_beginItem_6 : decode cX3_beginItem 6 = .ok (.aload_n 0, 1) := by decide +kernel
theorem dX3_beginItem_7 : decode cX3_beginItem 7 = .ok (.getfield 27, 3) := by decide +kernel
theorem dX3_beginItem_10 : decode cX3_beginItem 10 = .ok (.aload_n 0, 1) := by decide +kernel
theorem dX3_beginItem_11 : decode cX3_beginItem 11 = .ok (.getfield 27, 3) := by decide +kernel
theorem dX3_beginItem_14 : decode cX3_beginItem 14 = .ok (.invokestatic 38, 3) := by decide +kernel
theorem dX3_beginItem_17 : decode cX3_beginItem 17 = .ok (.ishl, 1) := by decide +kernel
theorem dX3_beginItem_18 : decode cX3_beginItem 18 = .ok (.ior, 1) := by decide +kernel
theorem dX3_beginItem_19 : decode cX3_beginItem 19 = .ok (.putfield 35, 3) := by decide +kernel
theorem dX3_beginItem_22 : decode cX3_beginItem 22 = .ok (.aload_n 0, 1) := by decide +kernel
theorem dX3_beginItem_23 : decode cX3_beginItem 23 = .ok (.dup, 1) := by decide +kernel
theorem dX3_beginItem_24 : decode cX3_beginItem 24 = .ok (.getfield 27, 3) := by decide +kernel
theorem dX3_beginItem_27 : decode cX3_beginItem 27 = .ok (.iconst 1, 1) := by decide +kernel
theorem dX3_beginItem_28 : decode cX3_beginItem 28 = .ok (.iadd, 1) := by decide +kernel
theorem dX3_beginItem_29 : decode cX3_beginItem 29 = .ok (.putfield 27, 3) := by decide +kernel
theorem dX3_beginItem_32 : decode cX3_beginItem 32 = .ok (.return_, 1) := by decide +kernel
theorem dX3_takesNumber_0 : decode cX3_takesNumber 0 = .ok (.iload_n 1, 1) := by decide +kernel
theorem dX3_takesNumber_1 : decode cX3_takesNumber 1 = .ok (.invokestatic 42, 3) := by decide +kernel
theorem dX3_takesNumber_4 : decode cX3_takesNumber 4 = .ok (.ifCond .ne 5, 3) := by decide +kernel
theorem dX3_takesNumber_7 : decode cX3_takesNumber 7 = .ok (.iconst 0, 1) := by decide +kernel
theorem dX3_takesNumber_8 : decode cX3_takesNumber 8 = .ok (.ireturn, 1) := by decide +kernel
theorem dX3_takesNumber_9 : decode cX3_takesNumber 9 = .ok (.iconst 1, 1) := by decide +kernel
theorem dX3_takesNumber_10 : decode cX3_takesNumber 10 = .ok (.aload_n 0, 1) := by decide +kernel
theorem dX3_takesNumber_11 : decode cX3_takesNumber 11 = .ok (.getfield 27, 3) := by decide +kernel
theorem dX3_takesNumber_14 : decode cX3_takesNumber 14 = .ok (.iconst 1, 1) := by decide +kernel
theorem dX3_takesNumber_15 : decode cX3_takesNumber 15 = .ok (.isub, 1) := by decide +kernel
theorem dX3_takesNumber_16 : decode cX3_takesNumber 16 = .ok (.iload_n 1, 1) := by decide +kernel
theorem dX3_takesNumber_17 : decode cX3_takesNumber 17 = .ok (.bipush 48, 2) := by decide +kernel
theorem dX3_takesNumber_19 : decode cX3_takesNumber 19 = .ok (.isub, 1) := by decide +kernel
theorem dX3_takesNumber_20 : decode cX3_takesNumber 20 = .ok (.invokestatic 38, 3) := by decide +kernel
theorem dX3_takesNumber_23 : decode cX3_takesNumber 23 = .ok (.ishl, 1) := by decide +kernel
theorem dX3_takesNumber_24 : decode cX3_takesNumber 24 = .ok (.istore_n 2, 1) := by decide +kernel
theorem dX3_takesNumber_25 : decode cX3_takesNumber 25 = .ok (.aload_n 0, 1) := by decide +kernel
theorem dX3_takesNumber_26 : decode cX3_takesNumber 26 = .ok (.getfield 35, 3) := by decide +kernel
theorem dX3_takesNumber_29 : decode cX3_takesNumber 29 = .ok (.iload_n 2, 1) := by decide +kernel
theorem dX3_takesNumber_30 : decode cX3_takesNumber 30 = .ok (.iand, 1) := by decide +kernel
theorem dX3_takesNumber_31 : decode cX3_takesNumber 31 = .ok (.ifCond .eq 5, 3) := by decide +kernel
theorem dX3_takesNumber_34 : decode cX3_takesNumber 34 = .ok (.iconst 0, 1) := by decide +kernel
theorem dX3_takesNumber_35 : decode cX3_takesNumber 35 = .ok (.ireturn, 1) := by decide +kernel
theorem dX3_takesNumber_36 : decode cX3_takesNumber 36 = .ok (.aload_n 0, 1) := by decide +kernel
theorem dX3_takesNumber_37 : decode cX3_takesNumber 37 = .ok (.dup, 1) := by decide +kernel
theorem dX3_takesNumber_38 : decode cX3_takesNumber 38 = .ok (.getfield 35, 3) := by decide +kernel
theorem dX3_takesNumber_41 : decode cX3_takesNumber 41 = .ok (.iload_n 2, 1) := by decide +kernel
theorem dX3_takesNumber_42 : decode cX3_takesNumber 42 = .ok (.ior, 1) := by decide +kernel
theorem dX3_takesNumber_43 : decode cX3_takesNumber 43 = .ok (.putfield 35, 3) := by decide +kernel
theorem dX3_takesNumber_46 : decode cX3_takesNumber 46 = .ok (.iconst 1, 1) := by decide +kernel
theorem dX3_takesNumber_47 : decode cX3_takesNumber 47 = .ok (.ireturn, 1) := by decide +kernel
theorem dX3_firstStranger_0 : decode cX3_firstStranger 0 = .ok (.iconst 0, 1) := by decide +kernel
theorem dX3_firstStranger_1 : decode cX3_firstStranger 1 = .ok (.istore 4, 2) := by decide +kernel
theorem dX3_firstStranger_3 : decode cX3_firstStranger 3 = .ok (.iload 4, 2) := by decide +kernel
theorem dX3_firstStranger_5 : decode cX3_firstStranger 5 = .ok (.iload_n 3, 1) := by decide +kernel
theorem dX3_firstStranger_6 : decode cX3_firstStranger 6 = .ok (.if_icmp .ge 42, 3) := by decide +kernel
theorem dX3_firstStranger_9 : decode cX3_firstStranger 9 = .ok (.aload_n 1, 1) := by decide +kernel
theorem dX3_firstStranger_10 : decode cX3_firstStranger 10 = .ok (.iload_n 2, 1) := by decide +kernel
theorem dX3_firstStranger_11 : decode cX3_firstStranger 11 = .ok (.iload 4, 2) := by decide +kernel
theorem dX3_firstStranger_13 : decode cX3_firstStranger 13 = .ok (.iadd, 1) := by decide +kernel
theorem dX3_firstStranger_14 : decode cX3_firstStranger 14 = .ok (.invokevirtual 18, 3) := by decide +kernel
theorem dX3_firstStranger_17 : decode cX3_firstStranger 17 = .ok (.istore 5, 2) := by decide +kernel
theorem dX3_firstStranger_19 : decode cX3_firstStranger 19 = .ok (.iload 5, 2) := by decide +kernel
theorem dX3_firstStranger_21 : decode cX3_firstStranger 21 = .ok (.invokestatic 42, 3) := by decide +kernel
theorem dX3_firstStranger_24 : decode cX3_firstStranger 24 = .ok (.ifCond .eq 18, 3) := by decide +kernel
theorem dX3_firstStranger_27 : decode cX3_firstStranger 27 = .ok (.iload 5, 2) := by decide +kernel
theorem dX3_firstStranger_29 : decode cX3_firstStranger 29 = .ok (.bipush 48, 2) := by decide +kernel
theorem dX3_firstStranger_31 : decode cX3_firstStranger 31 = .ok (.isub, 1) := by decide +kernel
theorem dX3_firstStranger_32 : decode cX3_firstStranger 32 = .ok (.aload_n 0, 1) := by decide +kernel
theorem dX3_firstStranger_33 : decode cX3_firstStranger 33 = .ok (.getfield 27, 3) := by decide +kernel
theorem dX3_firstStranger_36 : decode cX3_firstStranger 36 = .ok (.if_icmp .lt 6, 3) := by decide +kernel
theorem dX3_firstStranger_39 : decode cX3_firstStranger 39 = .ok (.iload 4, 2) := by decide +kernel
theorem dX3_firstStranger_41 : decode cX3_firstStranger 41 = .ok (.ireturn, 1) := by decide +kernel
theorem dX3_firstStranger_42 : decode cX3_firstStranger 42 = .ok (.iinc 4 1, 3) := by decide +kernel
theorem dX3_firstStranger_45 : decode cX3_firstStranger 45 = .ok (.goto (-42), 3) := by decide +kernel
theorem dX3_firstStranger_48 : decode cX3_firstStranger 48 = .ok (.iconst (-1), 1) := by decide +kernel
theorem dX3_firstStranger_49 : decode cX3_firstStranger 49 = .ok (.ireturn, 1) := by decide +kernel
theorem dX3_isDigit_0 : decode cX3_isDigit 0 = .ok (.iload_n 0, 1) := by decide +kernel
theorem dX3_isDigit_1 : decode cX3_isDigit 1 = .ok (.bipush 48, 2) := by decide +kernel
theorem dX3_isDigit_3 : decode cX3_isDigit 3 = .ok (.if_icmp .lt 13, 3) := by decide +kernel
theorem dX3_isDigit_6 : decode cX3_isDigit 6 = .ok (.iload_n 0, 1) := by decide +kernel
theorem dX3_isDigit_7 : decode cX3_isDigit 7 = .ok (.bipush 52, 2) := by decide +kernel
theorem dX3_isDigit_9 : decode cX3_isDigit 9 = .ok (.if_icmp .ge 7, 3) := by decide +kernel
theorem dX3_isDigit_12 : decode cX3_isDigit 12 = .ok (.iconst 1, 1) := by decide +kernel
theorem dX3_isDigit_13 : decode cX3_isDigit 13 = .ok (.goto 4, 3) := by decide +kernel
theorem dX3_isDigit_16 : decode cX3_isDigit 16 = .ok (.iconst 0, 1) := by decide +kernel
theorem dX3_isDigit_17 : decode cX3_isDigit 17 = .ok (.ireturn, 1) := by decide +kernel
theorem dX4_init_0 : decode cX4_init 0 = .ok (.aload_n 0, 1) := by decide +kernel
theorem dX4_init_1 : decode cX4_init 1 = .ok (.iload_n 1, 1) := by decide +kernel
theorem dX4_init_2 : decode cX4_init 2 = .ok (.iload_n 2, 1) := by decide +kernel
theorem dX4_init_3 : decode cX4_init 3 = .ok (.iload_n 3, 1) := by decide +kernel
theorem dX4_init_4 : decode cX4_init 4 = .ok (.lload 4, 2) := by decide +kernel
theorem dX4_init_6 : decode cX4_init 6 = .ok (.lload 6, 2) := by decide +kernel
theorem dX4_init_8 : decode cX4_init 8 = .ok (.invokespecial 1, 3) := by decide +kernel
theorem dX4_init_11 : decode cX4_init 11 = .ok (.return_, 1) := by decide +kernel
theorem dX4_kind_0 : decode cX4_kind 0 = .ok (.iconst 1, 1) := by decide +kernel
theorem dX4_kind_1 : decode cX4_kind 1 = .ok (.ireturn, 1) := by decide +kernel
theorem dX4_telling_0 : decode cX4_telling 0 = .ok (.aload_n 1, 1) := by decide +kernel
theorem dX4_telling_1 : decode cX4_telling 1 = .ok (.iconst 2, 1) := by decide +kernel
theorem dX4_telling_2 : decode cX4_telling 2 = .ok (.invokevirtual 7, 3) := by decide +kernel
theorem dX4_telling_5 : decode cX4_telling 5 = .ok (.aload_n 0, 1) := by decide +kernel
theorem dX4_telling_6 : decode cX4_telling 6 = .ok (.aload_n 0, 1) := by decide +kernel
theorem dX4_telling_7 : decode cX4_telling 7 = .ok (.getfield 13, 3) := by decide +kernel
theorem dX4_telling_10 : decode cX4_telling 10 = .ok (.invokevirtual 19, 3) := by decide +kernel
theorem dX4_telling_13 : decode cX4_telling 13 = .ok (.invokestatic 23, 3) := by decide +kernel
theorem dX4_telling_16 : decode cX4_telling 16 = .ok (.aload_n 0, 1) := by decide +kernel
theorem dX4_telling_17 : decode cX4_telling 17 = .ok (.aload_n 0, 1) := by decide +kernel
theorem dX4_telling_18 : decode cX4_telling 18 = .ok (.getfield 28, 3) := by decide +kernel
theorem dX4_telling_21 : decode cX4_telling 21 = .ok (.invokevirtual 19, 3) := by decide +kernel
theorem dX4_telling_24 : decode cX4_telling 24 = .ok (.invokestatic 23, 3) := by decide +kernel
theorem dX4_telling_27 : decode cX4_telling 27 = .ok (.iadd, 1) := by decide +kernel
theorem dX4_telling_28 : decode cX4_telling 28 = .ok (.istore_n 2, 1) := by decide +kernel
theorem dX4_telling_29 : decode cX4_telling 29 = .ok (.aload_n 0, 1) := by decide +kernel
theorem dX4_telling_30 : decode cX4_telling 30 = .ok (.aload_n 1, 1) := by decide +kernel
theorem dX4_telling_31 : decode cX4_telling 31 = .ok (.invokevirtual 31, 3) := by decide +kernel
theorem dX4_telling_34 : decode cX4_telling 34 = .ok (.bipush 100, 2) := by decide +kernel
theorem dX4_telling_36 : decode cX4_telling 36 = .ok (.iload_n 2, 1) := by decide +kernel
theorem dX4_telling_37 : decode cX4_telling 37 = .ok (.imul, 1) := by decide +kernel
theorem dX4_telling_38 : decode cX4_telling 38 = .ok (.iadd, 1) := by decide +kernel
theorem dX4_telling_39 : decode cX4_telling 39 = .ok (.ireturn, 1) := by decide +kernel
theorem dX5_first_0 : decode cX5_first 0 = .ok (.iload_n 0, 1) := by decide +kernel
theorem dX5_first_1 : decode cX5_first 1 = .ok (.i2l, 1) := by decide +kernel
theorem dX5_first_2 : decode cX5_first 2 = .ok (.bipush 40, 2) := by decide +kernel
theorem dX5_first_4 : decode cX5_first 4 = .ok (.lshl, 1) := by decide +kernel
theorem dX5_first_5 : decode cX5_first 5 = .ok (.iload_n 1, 1) := by decide +kernel
theorem dX5_first_6 : decode cX5_first 6 = .ok (.i2l, 1) := by decide +kernel
theorem dX5_first_7 : decode cX5_first 7 = .ok (.bipush 16, 2) := by decide +kernel
theorem dX5_first_9 : decode cX5_first 9 = .ok (.lshl, 1) := by decide +kernel
theorem dX5_first_10 : decode cX5_first 10 = .ok (.lor, 1) := by decide +kernel
theorem dX5_first_11 : decode cX5_first 11 = .ok (.lstore_n 2, 1) := by decide +kernel
theorem dX5_first_12 : decode cX5_first 12 = .ok (.iconst 0, 1) := by decide +kernel
theorem dX5_first_13 : decode cX5_first 13 = .ok (.istore 4, 2) := by decide +kernel
theorem dX5_first_15 : decode cX5_first 15 = .ok (.iload 4, 2) := by decide +kernel
theorem dX5_first_17 : decode cX5_first 17 = .ok (.iload_n 0, 1) := by decide +kernel
theorem dX5_first_18 : decode cX5_first 18 = .ok (.if_icmp .ge 37, 3) := by decide +kernel
theorem dX5_first_21 : decode cX5_first 21 = .ok (.lload_n 2, 1) := by decide +kernel
theorem dX5_first_22 : decode cX5_first 22 = .ok (.lconst 1, 1) := by decide +kernel
theorem dX5_first_23 : decode cX5_first 23 = .ok (.iload 4, 2) := by decide +kernel
theorem dX5_first_25 : decode cX5_first 25 = .ok (.iload 4, 2) := by decide +kernel
theorem dX5_first_27 : decode cX5_first 27 = .ok (.invokestatic 11, 3) := by decide +kernel
theorem dX5_first_30 : decode cX5_first 30 = .ok (.lshl, 1) := by decide +kernel
theorem dX5_first_31 : decode cX5_first 31 = .ok (.lconst 1, 1) := by decide +kernel
theorem dX5_first_32 : decode cX5_first 32 = .ok (.bipush 32, 2) := by decide +kernel
theorem dX5_first_34 : decode cX5_first 34 = .ok (.iload 4, 2) := by decide +kernel
theorem dX5_first_36 : decode cX5_first 36 = .ok (.iadd, 1) := by decide +kernel
theorem dX5_first_37 : decode cX5_first 37 = .ok (.lshl, 1) := by decide +kernel
theorem dX5_first_38 : decode cX5_first 38 = .ok (.lor, 1) := by decide +kernel
theorem dX5_first_39 : decode cX5_first 39 = .ok (.lconst 1, 1) := by decide +kernel
theorem dX5_first_40 : decode cX5_first 40 = .ok (.bipush 36, 2) := by decide +kernel
theorem dX5_first_42 : decode cX5_first 42 = .ok (.iload 4, 2) := by decide +kernel
theorem dX5_first_44 : decode cX5_first 44 = .ok (.iadd, 1) := by decide +kernel
theorem dX5_first_45 : decode cX5_first 45 = .ok (.lshl, 1) := by decide +kernel
theorem dX5_first_46 : decode cX5_first 46 = .ok (.lor, 1) := by decide +kernel
theorem dX5_first_47 : decode cX5_first 47 = .ok (.lor, 1) := by decide +kernel
theorem dX5_first_48 : decode cX5_first 48 = .ok (.lstore_n 2, 1) := by decide +kernel
theorem dX5_first_49 : decode cX5_first 49 = .ok (.iinc 4 1, 3) := by decide +kernel
theorem dX5_first_52 : decode cX5_first 52 = .ok (.goto (-37), 3) := by decide +kernel
theorem dX5_first_55 : decode cX5_first 55 = .ok (.lload_n 2, 1) := by decide +kernel
theorem dX5_first_56 : decode cX5_first 56 = .ok (.lreturn, 1) := by decide +kernel
theorem dX5_persons_0 : decode cX5_persons 0 = .ok (.lload_n 0, 1) := by decide +kernel
theorem dX5_persons_1 : decode cX5_persons 1 = .ok (.bipush 40, 2) := by decide +kernel
theorem dX5_persons_3 : decode cX5_persons 3 = .ok (.lshr, 1) := by decide +kernel
theorem dX5_persons_4 : decode cX5_persons 4 = .ok (.l2i, 1) := by decide +kernel
theorem dX5_persons_5 : decode cX5_persons 5 = .ok (.ireturn, 1) := by decide +kernel
theorem dX5_allSecrets_0 : decode cX5_allSecrets 0 = .ok (.lload_n 0, 1) := by decide +kernel
theorem dX5_allSecrets_1 : decode cX5_allSecrets 1 = .ok (.l2i, 1) := by decide +kernel
theorem dX5_allSecrets_2 : decode cX5_allSecrets 2 = .ok (.ldc 15, 2) := by decide +kernel
theorem dX5_allSecrets_4 : decode cX5_allSecrets 4 = .ok (.iand, 1) := by decide +kernel
theorem dX5_allSecrets_5 : decode cX5_allSecrets 5 = .ok (.ireturn, 1) := by decide +kernel
theorem dX5_allNumbers_0 : decode cX5_allNumbers 0 = .ok (.lload_n 0, 1) := by decide +kernel
theorem dX5_allNumbers_1 : decode cX5_allNumbers 1 = .ok (.bipush 16, 2) := by decide +kernel
theorem dX5_allNumbers_3 : decode cX5_allNumbers 3 = .ok (.lshr, 1) := by decide +kernel
theorem dX5_allNumbers_4 : decode cX5_allNumbers 4 = .ok (.l2i, 1) := by decide +kernel
theorem dX5_allNumbers_5 : decode cX5_allNumbers 5 = .ok (.ldc 15, 2) := by decide +kernel
theorem dX5_allNumbers_7 : decode cX5_allNumbers 7 = .ok (.iand, 1) := by decide +kernel
theorem dX5_allNumbers_8 : decode cX5_allNumbers 8 = .ok (.ireturn, 1) := by decide +kernel
theorem dX5_partOf_0 : decode cX5_partOf 0 = .ok (.iload_n 0, 1) := by decide +kernel
theorem dX5_partOf_1 : decode cX5_partOf 1 = .ok (.iconst 4, 1) := by decide +kernel
theorem dX5_partOf_2 : decode cX5_partOf 2 = .ok (.iload_n 1, 1) := by decide +kernel
theorem dX5_partOf_3 : decode cX5_partOf 3 = .ok (.imul, 1) := by decide +kernel
theorem dX5_partOf_4 : decode cX5_partOf 4 = .ok (.ishr, 1) := by decide +kernel
theorem dX5_partOf_5 : decode cX5_partOf 5 = .ok (.bipush 15, 2) := by decide +kernel
theorem dX5_partOf_7 : decode cX5_partOf 7 = .ok (.iand, 1) := by decide +kernel
theorem dX5_partOf_8 : decode cX5_partOf 8 = .ok (.ireturn, 1) := by decide +kernel
theorem dX5_secretsOf_0 : decode cX5_secretsOf 0 = .ok (.lload_n 0, 1) := by decide +kernel
theorem dX5_secretsOf_1 : decode cX5_secretsOf 1 = .ok (.iconst 4, 1) := by decide +kernel
theorem dX5_secretsOf_2 : decode cX5_secretsOf 2 = .ok (.iload_n 2, 1) := by decide +kernel
theorem dX5_secretsOf_3 : decode cX5_secretsOf 3 = .ok (.imul, 1) := by decide +kernel
theorem dX5_secretsOf_4 : decode cX5_secretsOf 4 = .ok (.lshr, 1) := by decide +kernel
theorem dX5_secretsOf_5 : decode cX5_secretsOf 5 = .ok (.l2i, 1) := by decide +kernel
theorem dX5_secretsOf_6 : decode cX5_secretsOf 6 = .ok (.bipush 15, 2) := by decide +kernel
theorem dX5_secretsOf_8 : decode cX5_secretsOf 8 = .ok (.iand, 1) := by decide +kernel
theorem dX5_secretsOf_9 : decode cX5_secretsOf 9 = .ok (.ireturn, 1) := by decide +kernel
theorem dX5_numbersOf_0 : decode cX5_numbersOf 0 = .ok (.lload_n 0, 1) := by decide +kernel
theorem dX5_numbersOf_1 : decode cX5_numbersOf 1 = .ok (.bipush 16, 2) := by decide +kernel
theorem dX5_numbersOf_3 : decode cX5_numbersOf 3 = .ok (.iconst 4, 1) := by decide +kernel
theorem dX5_numbersOf_4 : decode cX5_numbersOf 4 = .ok (.iload_n 2, 1) := by decide +kernel
theorem dX5_numbersOf_5 : decode cX5_numbersOf 5 = .ok (.imul, 1) := by decide +kernel
theorem dX5_numbersOf_6 : decode cX5_numbersOf 6 = .ok (.iadd, 1) := by decide +kernel
theorem dX5_numbersOf_7 : decode cX5_numbersOf 7 = .ok (.lshr, 1) := by decide +kernel
theorem dX5_numbersOf_8 : decode cX5_numbersOf 8 = .ok (.l2i, 1) := by decide +kernel
theorem dX5_numbersOf_9 : decode cX5_numbersOf 9 = .ok (.bipush 15, 2) := by decide +kernel
theorem dX5_numbersOf_11 : decode cX5_numbersOf 11 = .ok (.iand, 1) := by decide +kernel
theorem dX5_numbersOf_12 : decode cX5_numbersOf 12 = .ok (.ireturn, 1) := by decide +kernel
theorem dX5_hasToken_0 : decode cX5_hasToken 0 = .ok (.iload_n 2, 1) := by decide +kernel
theorem dX5_hasToken_1 : decode cX5_hasToken 1 = .ok (.iconst 2, 1) := by decide +kernel
theorem dX5_hasToken_2 : decode cX5_hasToken 2 = .ok (.if_icmp .ne 8, 3) := by decide +kernel
theorem dX5_hasToken_5 : decode cX5_hasToken 5 = .ok (.bipush 32, 2) := by decide +kernel
theorem dX5_hasToken_7 : decode cX5_hasToken 7 = .ok (.goto 5, 3) := by decide +kernel
theorem dX5_hasToken_10 : decode cX5_hasToken 10 = .ok (.bipush 36, 2) := by decide +kernel
theorem dX5_hasToken_12 : decode cX5_hasToken 12 = .ok (.istore 4, 2) := by decide +kernel
theorem dX5_hasToken_14 : decode cX5_hasToken 14 = .ok (.lload_n 0, 1) := by decide +kernel
theorem dX5_hasToken_15 : decode cX5_hasToken 15 = .ok (.iload 4, 2) := by decide +kernel
theorem dX5_hasToken_17 : decode cX5_hasToken 17 = .ok (.iload_n 3, 1) := by decide +kernel
theorem dX5_hasToken_18 : decode cX5_hasToken 18 = .ok (.iadd, 1) := by decide +kernel
theorem dX5_hasToken_19 : decode cX5_hasToken 19 = .ok (.lshr, 1) := by decide +kernel
theorem dX5_hasToken_20 : decode cX5_hasToken 20 = .ok (.lconst 1, 1) := by decide +kernel
theorem dX5_hasToken_21 : decode cX5_hasToken 21 = .ok (.land, 1) := by decide +kernel
theorem dX5_hasToken_22 : decode cX5_hasToken 22 = .ok (.lconst 1, 1) := by decide +kernel
theorem dX5_hasToken_23 : decode cX5_hasToken 23 = .ok (.lcmp, 1) := by decide +kernel
theorem dX5_hasToken_24 : decode cX5_hasToken 24 = .ok (.ifCond .ne 7, 3) := by decide +kernel
theorem dX5_hasToken_27 : decode cX5_hasToken 27 = .ok (.iconst 1, 1) := by decide +kernel
theorem dX5_hasToken_28 : decode cX5_hasToken 28 = .ok (.goto 4, 3) := by decide +kernel
theorem dX5_hasToken_31 : decode cX5_hasToken 31 = .ok (.iconst 0, 1) := by decide +kernel
theorem dX5_hasToken_32 : decode cX5_hasToken 32 = .ok (.ireturn, 1) := by decide +kernel
theorem dX5_everySecret_0 : decode cX5_everySecret 0 = .ok (.iconst 1, 1) := by decide +kernel
theorem dX5_everySecret_1 : decode cX5_everySecret 1 = .ok (.lload_n 0, 1) := by decide +kernel
theorem dX5_everySecret_2 : decode cX5_everySecret 2 = .ok (.invokestatic 16, 3) := by decide +kernel
theorem dX5_everySecret_5 : decode cX5_everySecret 5 = .ok (.ishl, 1) := by decide +kernel
theorem dX5_everySecret_6 : decode cX5_everySecret 6 = .ok (.iconst 1, 1) := by decide +kernel
theorem dX5_everySecret_7 : decode cX5_everySecret 7 = .ok (.isub, 1) := by decide +kernel
theorem dX5_everySecret_8 : decode cX5_everySecret 8 = .ok (.ireturn, 1) := by decide +kernel
theorem dX5_isExpert_0 : decode cX5_isExpert 0 = .ok (.lload_n 0, 1) := by decide +kernel
theorem dX5_isExpert_1 : decode cX5_isExpert 1 = .ok (.iload_n 2, 1) := by decide +kernel
theorem dX5_isExpert_2 : decode cX5_isExpert 2 = .ok (.invokestatic 20, 3) := by decide +kernel
theorem dX5_isExpert_5 : decode cX5_isExpert 5 = .ok (.lload_n 0, 1) := by decide +kernel
theorem dX5_isExpert_6 : decode cX5_isExpert 6 = .ok (.invokestatic 24, 3) := by decide +kernel
theorem dX5_isExpert_9 : decode cX5_isExpert 9 = .ok (.if_icmp .ne 7, 3) := by decide +kernel
theorem dX5_isExpert_12 : decode cX5_isExpert 12 = .ok (.iconst 1, 1) := by decide +kernel
theorem dX5_isExpert_13 : decode cX5_isExpert 13 = .ok (.goto 4, 3) := by decide +kernel
theorem dX5_isExpert_16 : decode cX5_isExpert 16 = .ok (.iconst 0, 1) := by decide +kernel
theorem dX5_isExpert_17 : decode cX5_isExpert 17 = .ok (.ireturn, 1) := by decide +kernel
theorem dX5_experts_0 : decode cX5_experts 0 = .ok (.lload_n 0, 1) := by decide +kernel
theorem dX5_experts_1 : decode cX5_experts 1 = .ok (.invokestatic 16, 3) := by decide +kernel
theorem dX5_experts_4 : decode cX5_experts 4 = .ok (.istore_n 2, 1) := by decide +kernel
theorem dX5_experts_5 : decode cX5_experts 5 = .ok (.iconst 0, 1) := by decide +kernel
theorem dX5_experts_6 : decode cX5_experts 6 = .ok (.istore_n 3, 1) := by decide +kernel
theorem dX5_experts_7 : decode cX5_experts 7 = .ok (.iconst 0, 1) := by decide +kernel
theorem dX5_experts_8 : decode cX5_experts 8 = .ok (.istore 4, 2) := by decide +kernel
theorem dX5_experts_10 : decode cX5_experts 10 = .ok (.iload 4, 2) := by decide +kernel
theorem dX5_experts_12 : decode cX5_experts 12 = .ok (.iload_n 2, 1) := by decide +kernel
theorem dX5_experts_13 : decode cX5_experts 13 = .ok (.if_icmp .ge 21, 3) := by decide +kernel
theorem dX5_experts_16 : decode cX5_experts 16 = .ok (.lload_n 0, 1) := by decide +kernel
theorem dX5_experts_17 : decode cX5_experts 17 = .ok (.iload 4, 2) := by decide +kernel
theorem dX5_experts_19 : decode cX5_experts 19 = .ok (.invokestatic 27, 3) := by decide +kernel
theorem dX5_experts_22 : decode cX5_experts 22 = .ok (.ifCond .eq 6, 3) := by decide +kernel
theorem dX5_experts_25 : decode cX5_experts 25 = .ok (.iinc 3 1, 3) := by decide +kernel
theorem dX5_experts_28 : decode cX5_experts 28 = .ok (.iinc 4 1, 3) := by decide +kernel
theorem dX5_experts_31 : decode cX5_experts 31 = .ok (.goto (-21), 3) := by decide +kernel
theorem dX5_experts_34 : decode cX5_experts 34 = .ok (.iload_n 3, 1) := by decide +kernel
theorem dX5_experts_35 : decode cX5_experts 35 = .ok (.ireturn, 1) := by decide +kernel
theorem dX5_allAreExperts_0 : decode cX5_allAreExperts 0 = .ok (.lload_n 0, 1) := by decide +kernel
theorem dX5_allAreExperts_1 : decode cX5_allAreExperts 1 = .ok (.invokestatic 16, 3) := by decide +kernel
theorem dX5_allAreExperts_4 : decode cX5_allAreExperts 4 = .ok (.istore_n 2, 1) := by decide +kernel
theorem dX5_allAreExperts_5 : decode cX5_allAreExperts 5 = .ok (.lload_n 0, 1) := by decide +kernel
theorem dX5_allAreExperts_6 : decode cX5_allAreExperts 6 = .ok (.invokestatic 31, 3) := by decide +kernel
theorem dX5_allAreExperts_9 : decode cX5_allAreExperts 9 = .ok (.invokestatic 34, 3) := by decide +kernel
theorem dX5_allAreExperts_12 : decode cX5_allAreExperts 12 = .ok (.iload_n 2, 1) := by decide +kernel
theorem dX5_allAreExperts_13 : decode cX5_allAreExperts 13 = .ok (.iload_n 2, 1) := by decide +kernel
theorem dX5_allAreExperts_14 : decode cX5_allAreExperts 14 = .ok (.imul, 1) := by decide +kernel
theorem dX5_allAreExperts_15 : decode cX5_allAreExperts 15 = .ok (.if_icmp .ne 7, 3) := by decide +kernel
theorem dX5_allAreExperts_18 : decode cX5_allAreExperts 18 = .ok (.iconst 1, 1) := by decide +kernel
theorem dX5_allAreExperts_19 : decode cX5_allAreExperts 19 = .ok (.goto 4, 3) := by decide +kernel
theorem dX5_allAreExperts_22 : decode cX5_allAreExperts 22 = .ok (.iconst 0, 1) := by decide +kernel
theorem dX5_allAreExperts_23 : decode cX5_allAreExperts 23 = .ok (.ireturn, 1) := by decide +kernel
theorem dX5_whomMay_0 : decode cX5_whomMay 0 = .ok (.iload_n 2, 1) := by decide +kernel
theorem dX5_whomMay_1 : decode cX5_whomMay 1 = .ok (.iconst 2, 1) := by decide +kernel
theorem dX5_whomMay_2 : decode cX5_whomMay 2 = .ok (.if_icmp .eq 8, 3) := by decide +kernel
theorem dX5_whomMay_5 : decode cX5_whomMay 5 = .ok (.iload_n 2, 1) := by decide +kernel
theorem dX5_whomMay_6 : decode cX5_whomMay 6 = .ok (.iconst 3, 1) := by decide +kernel
theorem dX5_whomMay_7 : decode cX5_whomMay 7 = .ok (.if_icmp .ne 14, 3) := by decide +kernel
theorem dX5_whomMay_10 : decode cX5_whomMay 10 = .ok (.lload_n 0, 1) := by decide +kernel
theorem dX5_whomMay_11 : decode cX5_whomMay 11 = .ok (.iload_n 2, 1) := by decide +kernel
theorem dX5_whomMay_12 : decode cX5_whomMay 12 = .ok (.iload_n 3, 1) := by decide +kernel
theorem dX5_whomMay_13 : decode cX5_whomMay 13 = .ok (.invokestatic 40, 3) := by decide +kernel
theorem dX5_whomMay_16 : decode cX5_whomMay 16 = .ok (.ifCond .ne 5, 3) := by decide +kernel
theorem dX5_whomMay_19 : decode cX5_whomMay 19 = .ok (.iconst 0, 1) := by decide +kernel
theorem dX5_whomMay_20 : decode cX5_whomMay 20 = .ok (.ireturn, 1) := by decide +kernel
theorem dX5_whomMay_21 : decode cX5_whomMay 21 = .ok (.lload_n 0, 1) := by decide +kernel
theorem dX5_whomMay_22 : decode cX5_whomMay 22 = .ok (.iload_n 3, 1) := by decide +kernel
theorem dX5_whomMay_23 : decode cX5_whomMay 23 = .ok (.invokestatic 20, 3) := by decide +kernel
theorem dX5_whomMay_26 : decode cX5_whomMay 26 = .ok (.istore 4, 2) := by decide +kernel
theorem dX5_whomMay_28 : decode cX5_whomMay 28 = .ok (.lload_n 0, 1) := by decide +kernel
theorem dX5_whomMay_29 : decode cX5_whomMay 29 = .ok (.iload_n 3, 1) := by decide +kernel
theorem dX5_whomMay_30 : decode cX5_whomMay 30 = .ok (.invokestatic 44, 3) := by decide +kernel
theorem dX5_whomMay_33 : decode cX5_whomMay 33 = .ok (.iconst 1, 1) := by decide +kernel
theorem dX5_whomMay_34 : decode cX5_whomMay 34 = .ok (.iload_n 3, 1) := by decide +kernel
theorem dX5_whomMay_35 : decode cX5_whomMay 35 = .ok (.ishl, 1) := by decide +kernel
theorem dX5_whomMay_36 : decode cX5_whomMay 36 = .ok (.iconst (-1), 1) := by decide +kernel
theorem dX5_whomMay_37 : decode cX5_whomMay 37 = .ok (.ixor, 1) := by decide +kernel
theorem dX5_whomMay_38 : decode cX5_whomMay 38 = .ok (.iand, 1) := by decide +kernel
theorem dX5_whomMay_39 : decode cX5_whomMay 39 = .ok (.istore 5, 2) := by decide +kernel
theorem dX5_whomMay_41 : decode cX5_whomMay 41 = .ok (.iload_n 2, 1) := by decide +kernel
theorem dX5_whomMay_42 : decode cX5_whomMay 42 = .ok (.iconst 1, 1) := by decide +kernel
theorem dX5_whomMay_43 : decode cX5_whomMay 43 = .ok (.if_icmp .ne 11, 3) := by decide +kernel
theorem dX5_whomMay_46 : decode cX5_whomMay 46 = .ok (.iload 5, 2) := by decide +kernel
theorem dX5_whomMay_48 : decode cX5_whomMay 48 = .ok (.iload 4, 2) := by decide +kernel
theorem dX5_whomMay_50 : decode cX5_whomMay 50 = .ok (.iconst (-1), 1) := by decide +kernel
theorem dX5_whomMay_51 : decode cX5_whomMay 51 = .ok (.ixor, 1) := by decide +kernel
theorem dX5_whomMay_52 : decode cX5_whomMay 52 = .ok (.iand, 1) := by decide +kernel
theorem dX5_whomMay_53 : decode cX5_whomMay 53 = .ok (.ireturn, 1) := by decide +kernel
theorem dX5_whomMay_54 : decode cX5_whomMay 54 = .ok (.lload_n 0, 1) := by decide +kernel
theorem dX5_whomMay_55 : decode cX5_whomMay 55 = .ok (.invokestatic 16, 3) := by decide +kernel
theorem dX5_whomMay_58 : decode cX5_whomMay 58 = .ok (.istore 6, 2) := by decide +kernel
theorem dX5_whomMay_60 : decode cX5_whomMay 60 = .ok (.iconst 0, 1) := by decide +kernel
theorem dX5_whomMay_61 : decode cX5_whomMay 61 = .ok (.istore 7, 2) := by decide +kernel
theorem dX5_whomMay_63 : decode cX5_whomMay 63 = .ok (.iconst 0, 1) := by decide +kernel
theorem dX5_whomMay_64 : decode cX5_whomMay 64 = .ok (.istore 8, 2) := by decide +kernel
theorem dX5_whomMay_66 : decode cX5_whomMay 66 = .ok (.iload 8, 2) := by decide +kernel
theorem dX5_whomMay_68 : decode cX5_whomMay 68 = .ok (.iload 6, 2) := by decide +kernel
theorem dX5_whomMay_70 : decode cX5_whomMay 70 = .ok (.if_icmp .ge 39, 3) := by decide +kernel
theorem dX5_whomMay_73 : decode cX5_whomMay 73 = .ok (.iload 5, 2) := by decide +kernel
theorem dX5_whomMay_75 : decode cX5_whomMay 75 = .ok (.iload 8, 2) := by decide +kernel
theorem dX5_whomMay_77 : decode cX5_whomMay 77 = .ok (.invokestatic 47, 3) := by decide +kernel
theorem dX5_whomMay_80 : decode cX5_whomMay 80 = .ok (.ifCond .eq 23, 3) := by decide +kernel
theorem dX5_whomMay_83 : decode cX5_whomMay 83 = .ok (.lload_n 0, 1) := by decide +kernel
theorem dX5_whomMay_84 : decode cX5_whomMay 84 = .ok (.iload 8, 2) := by decide +kernel
theorem dX5_whomMay_86 : decode cX5_whomMay 86 = .ok (.invokestatic 20, 3) := by decide +kernel
theorem dX5_whomMay_89 : decode cX5_whomMay 89 = .ok (.iload 4, 2) := by decide +kernel
theorem dX5_whomMay_91 : decode cX5_whomMay 91 = .ok (.if_icmp .eq 12, 3) := by decide +kernel
theorem dX5_whomMay_94 : decode cX5_whomMay 94 = .ok (.iload 7, 2) := by decide +kernel
theorem dX5_whomMay_96 : decode cX5_whomMay 96 = .ok (.iconst 1, 1) := by decide +kernel
theorem dX5_whomMay_97 : decode cX5_whomMay 97 = .ok (.iload 8, 2) := by decide +kernel
theorem dX5_whomMay_99 : decode cX5_whomMay 99 = .ok (.ishl, 1) := by decide +kernel
theorem dX5_whomMay_100 : decode cX5_whomMay 100 = .ok (.ior, 1) := by decide +kernel
theorem dX5_whomMay_101 : decode cX5_whomMay 101 = .ok (.istore 7, 2) := by decide +kernel
theorem dX5_whomMay_103 : decode cX5_whomMay 103 = .ok (.iinc 8 1, 3) := by decide +kernel
theorem dX5_whomMay_106 : decode cX5_whomMay 106 = .ok (.goto (-40), 3) := by decide +kernel
theorem dX5_whomMay_109 : decode cX5_whomMay 109 = .ok (.iload 7, 2) := by decide +kernel
theorem dX5_whomMay_111 : decode cX5_whomMay 111 = .ok (.ireturn, 1) := by decide +kernel
theorem dX5_ring_0 : decode cX5_ring 0 = .ok (.lload_n 0, 1) := by decide +kernel
theorem dX5_ring_1 : decode cX5_ring 1 = .ok (.iload_n 2, 1) := by decide +kernel
theorem dX5_ring_2 : decode cX5_ring 2 = .ok (.invokestatic 20, 3) := by decide +kernel
theorem dX5_ring_5 : decode cX5_ring 5 = .ok (.lload_n 0, 1) := by decide +kernel
theorem dX5_ring_6 : decode cX5_ring 6 = .ok (.iload_n 3, 1) := by decide +kernel
theorem dX5_ring_7 : decode cX5_ring 7 = .ok (.invokestatic 20, 3) := by decide +kernel
theorem dX5_ring_10 : decode cX5_ring 10 = .ok (.ior, 1) := by decide +kernel
theorem dX5_ring_11 : decode cX5_ring 11 = .ok (.i2l, 1) := by decide +kernel
theorem dX5_ring_12 : decode cX5_ring 12 = .ok (.lstore 4, 2) := by decide +kernel
theorem dX5_ring_14 : decode cX5_ring 14 = .ok (.lload_n 0, 1) := by decide +kernel
theorem dX5_ring_15 : decode cX5_ring 15 = .ok (.iload_n 2, 1) := by decide +kernel
theorem dX5_ring_16 : decode cX5_ring 16 = .ok (.invokestatic 44, 3) := by decide +kernel
theorem dX5_ring_19 : decode cX5_ring 19 = .ok (.lload_n 0, 1) := by decide +kernel
theorem dX5_ring_20 : decode cX5_ring 20 = .ok (.iload_n 3, 1) := by decide +kernel
theorem dX5_ring_21 : decode cX5_ring 21 = .ok (.invokestatic 44, 3) := by decide +kernel
theorem dX5_ring_24 : decode cX5_ring 24 = .ok (.ior, 1) := by decide +kernel
theorem dX5_ring_25 : decode cX5_ring 25 = .ok (.i2l, 1) := by decide +kernel
theorem dX5_ring_26 : decode cX5_ring 26 = .ok (.lstore 6, 2) := by decide +kernel
theorem dX5_ring_28 : decode cX5_ring 28 = .ok (.lload 4, 2) := by decide +kernel
theorem dX5_ring_30 : decode cX5_ring 30 = .ok (.lload 6, 2) := by decide +kernel
theorem dX5_ring_32 : decode cX5_ring 32 = .ok (.bipush 16, 2) := by decide +kernel
theorem dX5_ring_34 : decode cX5_ring 34 = .ok (.lshl, 1) := by decide +kernel
theorem dX5_ring_35 : decode cX5_ring 35 = .ok (.lor, 1) := by decide +kernel
theorem dX5_ring_36 : decode cX5_ring 36 = .ok (.lstore 8, 2) := by decide +kernel
theorem dX5_ring_38 : decode cX5_ring 38 = .ok (.lload 8, 2) := by decide +kernel
theorem dX5_ring_40 : decode cX5_ring 40 = .ok (.iconst 4, 1) := by decide +kernel
theorem dX5_ring_41 : decode cX5_ring 41 = .ok (.iload_n 2, 1) := by decide +kernel
theorem dX5_ring_42 : decode cX5_ring 42 = .ok (.imul, 1) := by decide +kernel
theorem dX5_ring_43 : decode cX5_ring 43 = .ok (.lshl, 1) := by decide +kernel
theorem dX5_ring_44 : decode cX5_ring 44 = .ok (.lload 8, 2) := by decide +kernel
theorem dX5_ring_46 : decode cX5_ring 46 = .ok (.iconst 4, 1) := by decide +kernel
theorem dX5_ring_47 : decode cX5_ring 47 = .ok (.iload_n 3, 1) := by decide +kernel
theorem dX5_ring_48 : decode cX5_ring 48 = .ok (.imul, 1) := by decide +kernel
theorem dX5_ring_49 : decode cX5_ring 49 = .ok (.lshl, 1) := by decide +kernel
theorem dX5_ring_50 : decode cX5_ring 50 = .ok (.lor, 1) := by decide +kernel
theorem dX5_ring_51 : decode cX5_ring 51 = .ok (.lconst 1, 1) := by decide +kernel
theorem dX5_ring_52 : decode cX5_ring 52 = .ok (.bipush 32, 2) := by decide +kernel
theorem dX5_ring_54 : decode cX5_ring 54 = .ok (.iload_n 3, 1) := by decide +kernel
theorem dX5_ring_55 : decode cX5_ring 55 = .ok (.iadd, 1) := by decide +kernel
theorem dX5_ring_56 : decode cX5_ring 56 = .ok (.lshl, 1) := by decide +kernel
theorem dX5_ring_57 : decode cX5_ring 57 = .ok (.lor, 1) := by decide +kernel
theorem dX5_ring_58 : decode cX5_ring 58 = .ok (.lstore 10, 2) := by decide +kernel
theorem dX5_ring_60 : decode cX5_ring 60 = .ok (.lconst 1, 1) := by decide +kernel
theorem dX5_ring_61 : decode cX5_ring 61 = .ok (.bipush 32, 2) := by decide +kernel
theorem dX5_ring_63 : decode cX5_ring 63 = .ok (.iload_n 2, 1) := by decide +kernel
theorem dX5_ring_64 : decode cX5_ring 64 = .ok (.iadd, 1) := by decide +kernel
theorem dX5_ring_65 : decode cX5_ring 65 = .ok (.lshl, 1) := by decide +kernel
theorem dX5_ring_66 : decode cX5_ring 66 = .ok (.lconst 1, 1) := by decide +kernel
theorem dX5_ring_67 : decode cX5_ring 67 = .ok (.bipush 36, 2) := by decide +kernel
theorem dX5_ring_69 : decode cX5_ring 69 = .ok (.iload_n 3, 1) := by decide +kernel
theorem dX5_ring_70 : decode cX5_ring 70 = .ok (.iadd, 1) := by decide +kernel
theorem dX5_ring_71 : decode cX5_ring 71 = .ok (.lshl, 1) := by decide +kernel
theorem dX5_ring_72 : decode cX5_ring 72 = .ok (.lor, 1) := by decide +kernel
theorem dX5_ring_73 : decode cX5_ring 73 = .ok (.lstore 12, 2) := by decide +kernel
theorem dX5_ring_75 : decode cX5_ring 75 = .ok (.lload_n 0, 1) := by decide +kernel
theorem dX5_ring_76 : decode cX5_ring 76 = .ok (.lload 10, 2) := by decide +kernel
theorem dX5_ring_78 : decode cX5_ring 78 = .ok (.lor, 1) := by decide +kernel
theorem dX5_ring_79 : decode cX5_ring 79 = .ok (.lload 12, 2) := by decide +kernel
theorem dX5_ring_81 : decode cX5_ring 81 = .ok (.ldc2_w 51, 3) := by decide +kernel
theorem dX5_ring_84 : decode cX5_ring 84 = .ok (.lxor, 1) := by decide +kernel
theorem dX5_ring_85 : decode cX5_ring 85 = .ok (.land, 1) := by decide +kernel
theorem dX5_ring_86 : decode cX5_ring 86 = .ok (.lreturn, 1) := by decide +kernel
theorem dX5_keyFor_0 : decode cX5_keyFor 0 = .ok (.lload_n 0, 1) := by decide +kernel
theorem dX5_keyFor_1 : decode cX5_keyFor 1 = .ok (.lstore 4, 2) := by decide +kernel
theorem dX5_keyFor_3 : decode cX5_keyFor 3 = .ok (.iload_n 2, 1) := by decide +kernel
theorem dX5_keyFor_4 : decode cX5_keyFor 4 = .ok (.iconst 2, 1) := by decide +kernel
theorem dX5_keyFor_5 : decode cX5_keyFor 5 = .ok (.if_icmp .eq 16, 3) := by decide +kernel
theorem dX5_keyFor_8 : decode cX5_keyFor 8 = .ok (.iload_n 3, 1) := by decide +kernel
theorem dX5_keyFor_9 : decode cX5_keyFor 9 = .ok (.iconst 2, 1) := by decide +kernel
theorem dX5_keyFor_10 : decode cX5_keyFor 10 = .ok (.if_icmp .eq 11, 3) := by decide +kernel
theorem dX5_keyFor_13 : decode cX5_keyFor 13 = .ok (.lload 4, 2) := by decide +kernel
theorem dX5_keyFor_15 : decode cX5_keyFor 15 = .ok (.ldc2_w 53, 3) := by decide +kernel
theorem dX5_keyFor_18 : decode cX5_keyFor 18 = .ok (.land, 1) := by decide +kernel
theorem dX5_keyFor_19 : decode cX5_keyFor 19 = .ok (.lstore 4, 2) := by decide +kernel
theorem dX5_keyFor_21 : decode cX5_keyFor 21 = .ok (.iload_n 2, 1) := by decide +kernel
theorem dX5_keyFor_22 : decode cX5_keyFor 22 = .ok (.iconst 3, 1) := by decide +kernel
theorem dX5_keyFor_23 : decode cX5_keyFor 23 = .ok (.if_icmp .eq 16, 3) := by decide +kernel
theorem dX5_keyFor_26 : decode cX5_keyFor 26 = .ok (.iload_n 3, 1) := by decide +kernel
theorem dX5_keyFor_27 : decode cX5_keyFor 27 = .ok (.iconst 3, 1) := by decide +kernel
theorem dX5_keyFor_28 : decode cX5_keyFor 28 = .ok (.if_icmp .eq 11, 3) := by decide +kernel
theorem dX5_keyFor_31 : decode cX5_keyFor 31 = .ok (.lload 4, 2) := by decide +kernel
theorem dX5_keyFor_33 : decode cX5_keyFor 33 = .ok (.ldc2_w 55, 3) := by decide +kernel
theorem dX5_keyFor_36 : decode cX5_keyFor 36 = .ok (.land, 1) := by decide +kernel
theorem dX5_keyFor_37 : decode cX5_keyFor 37 = .ok (.lstore 4, 2) := by decide +kernel
theorem dX5_keyFor_39 : decode cX5_keyFor 39 = .ok (.lload 4, 2) := by decide +kernel
theorem dX5_keyFor_41 : decode cX5_keyFor 41 = .ok (.iload_n 2, 1) := by decide +kernel
theorem dX5_keyFor_42 : decode cX5_keyFor 42 = .ok (.iload_n 3, 1) := by decide +kernel
theorem dX5_keyFor_43 : decode cX5_keyFor 43 = .ok (.invokestatic 11, 3) := by decide +kernel
theorem dX5_keyFor_46 : decode cX5_keyFor 46 = .ok (.i2l, 1) := by decide +kernel
theorem dX5_keyFor_47 : decode cX5_keyFor 47 = .ok (.bipush 43, 2) := by decide +kernel
theorem dX5_keyFor_49 : decode cX5_keyFor 49 = .ok (.lshl, 1) := by decide +kernel
theorem dX5_keyFor_50 : decode cX5_keyFor 50 = .ok (.lor, 1) := by decide +kernel
theorem dX5_keyFor_51 : decode cX5_keyFor 51 = .ok (.lreturn, 1) := by decide +kernel
theorem dX6_init_0 : decode cX6_init 0 = .ok (.aload_n 0, 1) := by decide +kernel
theorem dX6_init_1 : decode cX6_init 1 = .ok (.invokespecial 3, 3) := by decide +kernel
theorem dX6_init_4 : decode cX6_init 4 = .ok (.aload_n 0, 1) := by decide +kernel
theorem dX6_init_5 : decode cX6_init 5 = .ok (.new 9, 3) := by decide +kernel
theorem dX6_init_8 : decode cX6_init 8 = .ok (.dup, 1) := by decide +kernel
theorem dX6_init_9 : decode cX6_init 9 = .ok (.invokespecial 11, 3) := by decide +kernel
theorem dX6_init_12 : decode cX6_init 12 = .ok (.putfield 12, 3) := by decide +kernel
theorem dX6_init_15 : decode cX6_init 15 = .ok (.aload_n 0, 1) := by decide +kernel
theorem dX6_init_16 : decode cX6_init 16 = .ok (.sipush 8192, 3) := by decide +kernel
theorem dX6_init_19 : decode cX6_init 19 = .ok (.newarray .long, 2) := by decide +kernel
theorem dX6_init_21 : decode cX6_init 21 = .ok (.putfield 18, 3) := by decide +kernel
theorem dX6_init_24 : decode cX6_init 24 = .ok (.aload_n 0, 1) := by decide +kernel
theorem dX6_init_25 : decode cX6_init 25 = .ok (.sipush 8192, 3) := by decide +kernel
theorem dX6_init_28 : decode cX6_init 28 = .ok (.newarray .long, 2) := by decide +kernel
theorem dX6_init_30 : decode cX6_init 30 = .ok (.putfield 22, 3) := by decide +kernel
theorem dX6_init_33 : decode cX6_init 33 = .ok (.aload_n 0, 1) := by decide +kernel
theorem dX6_init_34 : decode cX6_init 34 = .ok (.sipush 8192, 3) := by decide +kernel
theorem dX6_init_37 : decode cX6_init 37 = .ok (.newarray .byte, 2) := by decide +kernel
theorem dX6_init_39 : decode cX6_init 39 = .ok (.putfield 25, 3) := by decide +kernel
theorem dX6_init_42 : decode cX6_init 42 = .ok (.aload_n 0, 1) := by decide +kernel
theorem dX6_init_43 : decode cX6_init 43 = .ok (.sipush 8192, 3) := by decide +kernel
theorem dX6_init_46 : decode cX6_init 46 = .ok (.newarray .byte, 2) := by decide +kernel
theorem dX6_init_48 : decode cX6_init 48 = .ok (.putfield 29, 3) := by decide +kernel
theorem dX6_init_51 : decode cX6_init 51 = .ok (.aload_n 0, 1) := by decide +kernel
theorem dX6_init_52 : decode cX6_init 52 = .ok (.new 9, 3) := by decide +kernel
theorem dX6_init_55 : decode cX6_init 55 = .ok (.dup, 1) := by decide +kernel
theorem dX6_init_56 : decode cX6_init 56 = .ok (.invokespecial 11, 3) := by decide +kernel
theorem dX6_init_59 : decode cX6_init 59 = .ok (.putfield 32, 3) := by decide +kernel
theorem dX6_init_62 : decode cX6_init 62 = .ok (.return_, 1) := by decide +kernel
theorem dX6_all_0 : decode cX6_all 0 = .ok (.aload_n 0, 1) := by decide +kernel
theorem dX6_all_1 : decode cX6_all 1 = .ok (.lload_n 1, 1) := by decide +kernel
theorem dX6_all_2 : decode cX6_all 2 = .ok (.iload_n 3, 1) := by decide +kernel
theorem dX6_all_3 : decode cX6_all 3 = .ok (.iconst 0, 1) := by decide +kernel
theorem dX6_all_4 : decode cX6_all 4 = .ok (.invokevirtual 35, 3) := by decide +kernel
theorem dX6_all_7 : decode cX6_all 7 = .ok (.istore 4, 2) := by decide +kernel
theorem dX6_all_9 : decode cX6_all 9 = .ok (.iload 4, 2) := by decide +kernel
theorem dX6_all_11 : decode cX6_all 11 = .ok (.ifCond .ge 7, 3) := by decide +kernel
theorem dX6_all_14 : decode cX6_all 14 = .ok (.lconst 0, 1) := by decide +kernel
theorem dX6_all_15 : decode cX6_all 15 = .ok (.goto 10, 3) := by decide +kernel
theorem dX6_all_18 : decode cX6_all 18 = .ok (.aload_n 0, 1) := by decide +kernel
theorem dX6_all_19 : decode cX6_all 19 = .ok (.getfield 18, 3) := by decide +kernel
theorem dX6_all_22 : decode cX6_all 22 = .ok (.iload 4, 2) := by decide +kernel
theorem dX6_all_24 : decode cX6_all 24 = .ok (.laload, 1) := by decide +kernel
theorem dX6_all_25 : decode cX6_all 25 = .ok (.lreturn, 1) := by decide +kernel
theorem dX6_good_0 : decode cX6_good 0 = .ok (.aload_n 0, 1) := by decide +kernel
theorem dX6_good_1 : decode cX6_good 1 = .ok (.lload_n 1, 1) := by decide +kernel
theorem dX6_good_2 : decode cX6_good 2 = .ok (.iload_n 3, 1) := by decide +kernel
theorem dX6_good_3 : decode cX6_good 3 = .ok (.iconst 0, 1) := by decide +kernel
theorem dX6_good_4 : decode cX6_good 4 = .ok (.invokevirtual 35, 3) := by decide +kernel
theorem dX6_good_7 : decode cX6_good 7 = .ok (.istore 4, 2) := by decide +kernel
theorem dX6_good_9 : decode cX6_good 9 = .ok (.iload 4, 2) := by decide +kernel
theorem dX6_good_11 : decode cX6_good 11 = .ok (.ifCond .ge 7, 3) := by decide +kernel
theorem dX6_good_14 : decode cX6_good 14 = .ok (.lconst 0, 1) := by decide +kernel
theorem dX6_good_15 : decode cX6_good 15 = .ok (.goto 10, 3) := by decide +kernel
theorem dX6_good_18 : decode cX6_good 18 = .ok (.aload_n 0, 1) := by decide +kernel
theorem dX6_good_19 : decode cX6_good 19 = .ok (.getfield 22, 3) := by decide +kernel
theorem dX6_good_22 : decode cX6_good 22 = .ok (.iload 4, 2) := by decide +kernel
theorem dX6_good_24 : decode cX6_good 24 = .ok (.laload, 1) := by decide +kernel
theorem dX6_good_25 : decode cX6_good 25 = .ok (.lreturn, 1) := by decide +kernel
theorem dX6_fewest_0 : decode cX6_fewest 0 = .ok (.aload_n 0, 1) := by decide +kernel
theorem dX6_fewest_1 : decode cX6_fewest 1 = .ok (.lload_n 1, 1) := by decide +kernel
theorem dX6_fewest_2 : decode cX6_fewest 2 = .ok (.iload_n 3, 1) := by decide +kernel
theorem dX6_fewest_3 : decode cX6_fewest 3 = .ok (.iconst 0, 1) := by decide +kernel
theorem dX6_fewest_4 : decode cX6_fewest 4 = .ok (.invokevirtual 35, 3) := by decide +kernel
theorem dX6_fewest_7 : decode cX6_fewest 7 = .ok (.istore 4, 2) := by decide +kernel
theorem dX6_fewest_9 : decode cX6_fewest 9 = .ok (.iload 4, 2) := by decide +kernel
theorem dX6_fewest_11 : decode cX6_fewest 11 = .ok (.ifCond .lt 15, 3) := by decide +kernel
theorem dX6_fewest_14 : decode cX6_fewest 14 = .ok (.aload_n 0, 1) := by decide +kernel
theorem dX6_fewest_15 : decode cX6_fewest 15 = .ok (.getfield 22, 3) := by decide +kernel
theorem dX6_fewest_18 : decode cX6_fewest 18 = .ok (.iload 4, 2) := by decide +kernel
theorem dX6_fewest_20 : decode cX6_fewest 20 = .ok (.laload, 1) := by decide +kernel
theorem dX6_fewest_21 : decode cX6_fewest 21 = .ok (.lconst 0, 1) := by decide +kernel
theorem dX6_fewest_22 : decode cX6_fewest 22 = .ok (.lcmp, 1) := by decide +kernel
theorem dX6_fewest_23 : decode cX6_fewest 23 = .ok (.ifCond .ne 8, 3) := by decide +kernel
theorem dX6_fewest_26 : decode cX6_fewest 26 = .ok (.bipush (-9), 2) := by decide +kernel
theorem dX6_fewest_28 : decode cX6_fewest 28 = .ok (.goto 10, 3) := by decide +kernel
theorem dX6_fewest_31 : decode cX6_fewest 31 = .ok (.aload_n 0, 1) := by decide +kernel
theorem dX6_fewest_32 : decode cX6_fewest 32 = .ok (.getfield 25, 3) := by decide +kernel
theorem dX6_fewest_35 : decode cX6_fewest 35 = .ok (.iload 4, 2) := by decide +kernel
theorem dX6_fewest_37 : decode cX6_fewest 37 = .ok (.baload, 1) := by decide +kernel
theorem dX6_fewest_38 : decode cX6_fewest 38 = .ok (.ireturn, 1) := by decide +kernel
theorem dX6_most_0 : decode cX6_most 0 = .ok (.aload_n 0, 1) := by decide +kernel
theorem dX6_most_1 : decode cX6_most 1 = .ok (.lload_n 1, 1) := by decide +kernel
theorem dX6_most_2 : decode cX6_most 2 = .ok (.iload_n 3, 1) := by decide +kernel
theorem dX6_most_3 : decode cX6_most 3 = .ok (.iconst 0, 1) := by decide +kernel
theorem dX6_most_4 : decode cX6_most 4 = .ok (.invokevirtual 35, 3) := by decide +kernel
theorem dX6_most_7 : decode cX6_most 7 = .ok (.istore 4, 2) := by decide +kernel
theorem dX6_most_9 : decode cX6_most 9 = .ok (.iload 4, 2) := by decide +kernel
theorem dX6_most_11 : decode cX6_most 11 = .ok (.ifCond .lt 15, 3) := by decide +kernel
theorem dX6_most_14 : decode cX6_most 14 = .ok (.aload_n 0, 1) := by decide +kernel
theorem dX6_most_15 : decode cX6_most 15 = .ok (.getfield 22, 3) := by decide +kernel
theorem dX6_most_18 : decode cX6_most 18 = .ok (.iload 4, 2) := by decide +kernel
theorem dX6_most_20 : decode cX6_most 20 = .ok (.laload, 1) := by decide +kernel
theorem dX6_most_21 : decode cX6_most 21 = .ok (.lconst 0, 1) := by decide +kernel
theorem dX6_most_22 : decode cX6_most 22 = .ok (.lcmp, 1) := by decide +kernel
theorem dX6_most_23 : decode cX6_most 23 = .ok (.ifCond .ne 8, 3) := by decide +kernel
theorem dX6_most_26 : decode cX6_most 26 = .ok (.bipush (-9), 2) := by decide +kernel
theorem dX6_most_28 : decode cX6_most 28 = .ok (.goto 10, 3) := by decide +kernel
theorem dX6_most_31 : decode cX6_most 31 = .ok (.aload_n 0, 1) := by decide +kernel
theorem dX6_most_32 : decode cX6_most 32 = .ok (.getfield 29, 3) := by decide +kernel
theorem dX6_most_35 : decode cX6_most 35 = .ok (.iload 4, 2) := by decide +kernel
theorem dX6_most_37 : decode cX6_most 37 = .ok (.baload, 1) := by decide +kernel
theorem dX6_most_38 : decode cX6_most 38 = .ok (.ireturn, 1) := by decide +kernel
theorem dX6_judge_0 : decode cX6_judge 0 = .ok (.aload_n 0, 1) := by decide +kernel
theorem dX6_judge_1 : decode cX6_judge 1 = .ok (.lload_n 1, 1) := by decide +kernel
theorem dX6_judge_2 : decode cX6_judge 2 = .ok (.iload_n 3, 1) := by decide +kernel
theorem dX6_judge_3 : decode cX6_judge 3 = .ok (.iconst 0, 1) := by decide +kernel
theorem dX6_judge_4 : decode cX6_judge 4 = .ok (.invokevirtual 35, 3) := by decide +kernel
theorem dX6_judge_7 : decode cX6_judge 7 = .ok (.istore 4, 2) := by decide +kernel
theorem dX6_judge_9 : decode cX6_judge 9 = .ok (.iload 4, 2) := by decide +kernel
theorem dX6_judge_11 : decode cX6_judge 11 = .ok (.ifCond .lt 15, 3) := by decide +kernel
theorem dX6_judge_14 : decode cX6_judge 14 = .ok (.aload_n 0, 1) := by decide +kernel
theorem dX6_judge_15 : decode cX6_judge 15 = .ok (.getfield 22, 3) := by decide +kernel
theorem dX6_judge_18 : decode cX6_judge 18 = .ok (.iload 4, 2) := by decide +kernel
theorem dX6_judge_20 : decode cX6_judge 20 = .ok (.laload, 1) := by decide +kernel
theorem dX6_judge_21 : decode cX6_judge 21 = .ok (.lconst 0, 1) := by decide +kernel
theorem dX6_judge_22 : decode cX6_judge 22 = .ok (.lcmp, 1) := by decide +kernel
theorem dX6_judge_23 : decode cX6_judge 23 = .ok (.ifCond .ne 5, 3) := by decide +kernel
theorem dX6_judge_26 : decode cX6_judge 26 = .ok (.iconst 0, 1) := by decide +kernel
theorem dX6_judge_27 : decode cX6_judge 27 = .ok (.ireturn, 1) := by decide +kernel
theorem dX6_judge_28 : decode cX6_judge 28 = .ok (.aload_n 0, 1) := by decide +kernel
theorem dX6_judge_29 : decode cX6_judge 29 = .ok (.getfield 22, 3) := by decide +kernel
theorem dX6_judge_32 : decode cX6_judge 32 = .ok (.iload 4, 2) := by decide +kernel
theorem dX6_judge_34 : decode cX6_judge 34 = .ok (.laload, 1) := by decide +kernel
theorem dX6_judge_35 : decode cX6_judge 35 = .ok (.aload_n 0, 1) := by decide +kernel
theorem dX6_judge_36 : decode cX6_judge 36 = .ok (.getfield 18, 3) := by decide +kernel
theorem dX6_judge_39 : decode cX6_judge 39 = .ok (.iload 4, 2) := by decide +kernel
theorem dX6_judge_41 : decode cX6_judge 41 = .ok (.laload, 1) := by decide +kernel
theorem dX6_judge_42 : decode cX6_judge 42 = .ok (.lcmp, 1) := by decide +kernel
theorem dX6_judge_43 : decode cX6_judge 43 = .ok (.ifCond .ne 7, 3) := by decide +kernel
theorem dX6_judge_46 : decode cX6_judge 46 = .ok (.iconst 2, 1) := by decide +kernel
theorem dX6_judge_47 : decode cX6_judge 47 = .ok (.goto 4, 3) := by decide +kernel
theorem dX6_judge_50 : decode cX6_judge 50 = .ok (.iconst 1, 1) := by decide +kernel
theorem dX6_judge_51 : decode cX6_judge 51 = .ok (.ireturn, 1) := by decide +kernel
theorem dX6_bestPair_0 : decode cX6_bestPair 0 = .ok (.aload_n 0, 1) := by decide +kernel
theorem dX6_bestPair_1 : decode cX6_bestPair 1 = .ok (.lload_n 1, 1) := by decide +kernel
theorem dX6_bestPair_2 : decode cX6_bestPair 2 = .ok (.iload_n 3, 1) := by decide +kernel
theorem dX6_bestPair_3 : decode cX6_bestPair 3 = .ok (.invokevirtual 39, 3) := by decide +kernel
theorem dX6_bestPair_6 : decode cX6_bestPair 6 = .ok (.istore 4, 2) := by decide +kernel
theorem dX6_bestPair_8 : decode cX6_bestPair 8 = .ok (.iload 4, 2) := by decide +kernel
theorem dX6_bestPair_10 : decode cX6_bestPair 10 = .ok (.bipush (-9), 2) := by decide +kernel
theorem dX6_bestPair_12 : decode cX6_bestPair 12 = .ok (.if_icmp .eq 8, 3) := by decide +kernel
theorem dX6_bestPair_15 : decode cX6_bestPair 15 = .ok (.iload 4, 2) := by decide +kernel
theorem dX6_bestPair_17 : decode cX6_bestPair 17 = .ok (.ifCond .ne 6, 3) := by decide +kernel
theorem dX6_bestPair_20 : decode cX6_bestPair 20 = .ok (.bipush (-9), 2) := by decide +kernel
theorem dX6_bestPair_22 : decode cX6_bestPair 22 = .ok (.ireturn, 1) := by decide +kernel
theorem dX6_bestPair_23 : decode cX6_bestPair 23 = .ok (.lload_n 1, 1) := by decide +kernel
theorem dX6_bestPair_24 : decode cX6_bestPair 24 = .ok (.invokestatic 42, 3) := by decide +kernel
theorem dX6_bestPair_27 : decode cX6_bestPair 27 = .ok (.istore 5, 2) := by decide +kernel
theorem dX6_bestPair_29 : decode cX6_bestPair 29 = .ok (.iconst 0, 1) := by decide +kernel
theorem dX6_bestPair_30 : decode cX6_bestPair 30 = .ok (.istore 6, 2) := by decide +kernel
theorem dX6_bestPair_32 : decode cX6_bestPair 32 = .ok (.iload 6, 2) := by decide +kernel
theorem dX6_bestPair_34 : decode cX6_bestPair 34 = .ok (.iload 5, 2) := by decide +kernel
theorem dX6_bestPair_36 : decode cX6_bestPair 36 = .ok (.if_icmp .ge 75, 3) := by decide +kernel
theorem dX6_bestPair_39 : decode cX6_bestPair 39 = .ok (.lload_n 1, 1) := by decide +kernel
theorem dX6_bestPair_40 : decode cX6_bestPair 40 = .ok (.iload_n 3, 1) := by decide +kernel
theorem dX6_bestPair_41 : decode cX6_bestPair 41 = .ok (.iload 6, 2) := by decide +kernel
theorem dX6_bestPair_43 : decode cX6_bestPair 43 = .ok (.invokestatic 48, 3) := by decide +kernel
theorem dX6_bestPair_46 : decode cX6_bestPair 46 = .ok (.istore 7, 2) := by decide +kernel
theorem dX6_bestPair_48 : decode cX6_bestPair 48 = .ok (.iconst 0, 1) := by decide +kernel
theorem dX6_bestPair_49 : decode cX6_bestPair 49 = .ok (.istore 8, 2) := by decide +kernel
theorem dX6_bestPair_51 : decode cX6_bestPair 51 = .ok (.iload 8, 2) := by decide +kernel
theorem dX6_bestPair_53 : decode cX6_bestPair 53 = .ok (.iload 5, 2) := by decide +kernel
theorem dX6_bestPair_55 : decode cX6_bestPair 55 = .ok (.if_icmp .ge 50, 3) := by decide +kernel
theorem dX6_bestPair_58 : decode cX6_bestPair 58 = .ok (.iload 7, 2) := by decide +kernel
theorem dX6_bestPair_60 : decode cX6_bestPair 60 = .ok (.iload 8, 2) := by decide +kernel
theorem dX6_bestPair_62 : decode cX6_bestPair 62 = .ok (.invokestatic 51, 3) := by decide +kernel
theorem dX6_bestPair_65 : decode cX6_bestPair 65 = .ok (.ifCond .ne 6, 3) := by decide +kernel
theorem dX6_bestPair_68 : decode cX6_bestPair 68 = .ok (.goto 31, 3) := by decide +kernel
theorem dX6_bestPair_71 : decode cX6_bestPair 71 = .ok (.aload_n 0, 1) := by decide +kernel
theorem dX6_bestPair_72 : decode cX6_bestPair 72 = .ok (.lload_n 1, 1) := by decide +kernel
theorem dX6_bestPair_73 : decode cX6_bestPair 73 = .ok (.iload 6, 2) := by decide +kernel
theorem dX6_bestPair_75 : decode cX6_bestPair 75 = .ok (.iload 8, 2) := by decide +kernel
theorem dX6_bestPair_77 : decode cX6_bestPair 77 = .ok (.invokestatic 55, 3) := by decide +kernel
theorem dX6_bestPair_80 : decode cX6_bestPair 80 = .ok (.iload_n 3, 1) := by decide +kernel
theorem dX6_bestPair_81 : decode cX6_bestPair 81 = .ok (.invokevirtual 39, 3) := by decide +kernel
theorem dX6_bestPair_84 : decode cX6_bestPair 84 = .ok (.iload 4, 2) := by decide +kernel
theorem dX6_bestPair_86 : decode cX6_bestPair 86 = .ok (.iconst 1, 1) := by decide +kernel
theorem dX6_bestPair_87 : decode cX6_bestPair 87 = .ok (.isub, 1) := by decide +kernel
theorem dX6_bestPair_88 : decode cX6_bestPair 88 = .ok (.if_icmp .ne 11, 3) := by decide +kernel
theorem dX6_bestPair_91 : decode cX6_bestPair 91 = .ok (.iload 6, 2) := by decide +kernel
theorem dX6_bestPair_93 : decode cX6_bestPair 93 = .ok (.iload 8, 2) := by decide +kernel
theorem dX6_bestPair_95 : decode cX6_bestPair 95 = .ok (.invokestatic 59, 3) := by decide +kernel
theorem dX6_bestPair_98 : decode cX6_bestPair 98 = .ok (.ireturn, 1) := by decide +kernel
theorem dX6_bestPair_99 : decode cX6_bestPair 99 = .ok (.iinc 8 1, 3) := by decide +kernel
theorem dX6_bestPair_102 : decode cX6_bestPair 102 = .ok (.goto (-51), 3) := by decide +kernel
theorem dX6_bestPair_105 : decode cX6_bestPair 105 = .ok (.iinc 6 1, 3) := by decide +kernel
theorem dX6_bestPair_108 : decode cX6_bestPair 108 = .ok (.goto (-76), 3) := by decide +kernel
theorem dX6_bestPair_111 : decode cX6_bestPair 111 = .ok (.bipush (-9), 2) := by decide +kernel
theorem dX6_bestPair_113 : decode cX6_bestPair 113 = .ok (.ireturn, 1) := by decide +kernel
theorem dX6_areWithin_0 : decode cX6_areWithin 0 = .ok (.aload_n 0, 1) := by decide +kernel
theorem dX6_areWithin_1 : decode cX6_areWithin 1 = .ok (.lload_n 1, 1) := by decide +kernel
theorem dX6_areWithin_2 : decode cX6_areWithin 2 = .ok (.iload_n 3, 1) := by decide +kernel
theorem dX6_areWithin_3 : decode cX6_areWithin 3 = .ok (.iload 4, 2) := by decide +kernel
theorem dX6_areWithin_5 : decode cX6_areWithin 5 = .ok (.iconst 0, 1) := by decide +kernel
theorem dX6_areWithin_6 : decode cX6_areWithin 6 = .ok (.invokevirtual 63, 3) := by decide +kernel
theorem dX6_areWithin_9 : decode cX6_areWithin 9 = .ok (.ireturn, 1) := by decide +kernel
theorem dX6_count_0 : decode cX6_count 0 = .ok (.iload 4, 2) := by decide +kernel
theorem dX6_count_2 : decode cX6_count 2 = .ok (.ifCond .ne 10, 3) := by decide +kernel
theorem dX6_count_5 : decode cX6_count 5 = .ok (.aload_n 0, 1) := by decide +kernel
theorem dX6_count_6 : decode cX6_count 6 = .ok (.getfield 12, 3) := by decide +kernel
theorem dX6_count_9 : decode cX6_count 9 = .ok (.invokevirtual 67, 3) := by decide +kernel
theorem dX6_count_12 : decode cX6_count 12 = .ok (.lload_n 1, 1) := by decide +kernel
theorem dX6_count_13 : decode cX6_count 13 = .ok (.iload_n 3, 1) := by decide +kernel
theorem dX6_count_14 : decode cX6_count 14 = .ok (.iload_n 3, 1) := by decide +kernel
theorem dX6_count_15 : decode cX6_count 15 = .ok (.invokestatic 70, 3) := by decide +kernel
theorem dX6_count_18 : decode cX6_count 18 = .ok (.lstore 5, 2) := by decide +kernel
theorem dX6_count_20 : decode cX6_count 20 = .ok (.aload_n 0, 1) := by decide +kernel
theorem dX6_count_21 : decode cX6_count 21 = .ok (.getfield 12, 3) := by decide +kernel
theorem dX6_count_24 : decode cX6_count 24 = .ok (.lload 5, 2) := by decide +kernel
theorem dX6_count_26 : decode cX6_count 26 = .ok (.invokevirtual 73, 3) := by decide +kernel
theorem dX6_count_29 : decode cX6_count 29 = .ok (.istore 7, 2) := by decide +kernel
theorem dX6_count_31 : decode cX6_count 31 = .ok (.iload 7, 2) := by decide +kernel
theorem dX6_count_33 : decode cX6_count 33 = .ok (.ifCond .ge 10, 3) := by decide +kernel
theorem dX6_count_36 : decode cX6_count 36 = .ok (.iload 4, 2) := by decide +kernel
theorem dX6_count_38 : decode cX6_count 38 = .ok (.bipush 12, 2) := by decide +kernel
theorem dX6_count_40 : decode cX6_count 40 = .ok (.if_icmp .le 6, 3) := by decide +kernel
theorem dX6_count_43 : decode cX6_count 43 = .ok (.iload 7, 2) := by decide +kernel
theorem dX6_count_45 : decode cX6_count 45 = .ok (.ireturn, 1) := by decide +kernel
theorem dX6_count_46 : decode cX6_count 46 = .ok (.lconst 0, 1) := by decide +kernel
theorem dX6_count_47 : decode cX6_count 47 = .ok (.lstore 8, 2) := by decide +kernel
theorem dX6_count_49 : decode cX6_count 49 = .ok (.lconst 0, 1) := by decide +kernel
theorem dX6_count_50 : decode cX6_count 50 = .ok (.lstore 10, 2) := by decide +kernel
theorem dX6_count_52 : decode cX6_count 52 = .ok (.bipush 12, 2) := by decide +kernel
theorem dX6_count_54 : decode cX6_count 54 = .ok (.istore 12, 2) := by decide +kernel
theorem dX6_count_56 : decode cX6_count 56 = .ok (.iconst 0, 1) := by decide +kernel
theorem dX6_count_57 : decode cX6_count 57 = .ok (.istore 13, 2) := by decide +kernel
theorem dX6_count_59 : decode cX6_count 59 = .ok (.lload_n 1, 1) := by decide +kernel
theorem dX6_count_60 : decode cX6_count 60 = .ok (.invokestatic 42, 3) := by decide +kernel
theorem dX6_count_63 : decode cX6_count 63 = .ok (.istore 14, 2) := by decide +kernel
theorem dX6_count_65 : decode cX6_count 65 = .ok (.iconst 0, 1) := by decide +kernel
theorem dX6_count_66 : decode cX6_count 66 = .ok (.istore 15, 2) := by decide +kernel
theorem dX6_count_68 : decode cX6_count 68 = .ok (.iload 15, 2) := by decide +kernel
theorem dX6_count_70 : decode cX6_count 70 = .ok (.iload 14, 2) := by decide +kernel
theorem dX6_count_72 : decode cX6_count 72 = .ok (.if_icmp .ge 145, 3) := by decide +kernel
theorem dX6_count_75 : decode cX6_count 75 = .ok (.lload_n 1, 1) := by decide +kernel
theorem dX6_count_76 : decode cX6_count 76 = .ok (.iload_n 3, 1) := by decide +kernel
theorem dX6_count_77 : decode cX6_count 77 = .ok (.iload 15, 2) := by decide +kernel
theorem dX6_count_79 : decode cX6_count 79 = .ok (.invokestatic 48, 3) := by decide +kernel
theorem dX6_count_82 : decode cX6_count 82 = .ok (.istore 16, 2) := by decide +kernel
theorem dX6_count_84 : decode cX6_count 84 = .ok (.iconst 0, 1) := by decide +kernel
theorem dX6_count_85 : decode cX6_count 85 = .ok (.istore 17, 2) := by decide +kernel
theorem dX6_count_87 : decode cX6_count 87 = .ok (.iload 17, 2) := by decide +kernel
theorem dX6_count_89 : decode cX6_count 89 = .ok (.iload 14, 2) := by decide +kernel
theorem dX6_count_91 : decode cX6_count 91 = .ok (.if_icmp .ge 120, 3) := by decide +kernel
theorem dX6_count_94 : decode cX6_count 94 = .ok (.iload 16, 2) := by decide +kernel
theorem dX6_count_96 : decode cX6_count 96 = .ok (.iload 17, 2) := by decide +kernel
theorem dX6_count_98 : decode cX6_count 98 = .ok (.invokestatic 51, 3) := by decide +kernel
theorem dX6_count_101 : decode cX6_count 101 = .ok (.ifCond .ne 6, 3) := by decide +kernel
theorem dX6_count_104 : decode cX6_count 104 = .ok (.goto 101, 3) := by decide +kernel
theorem dX6_count_107 : decode cX6_count 107 = .ok (.aload_n 0, 1) := by decide +kernel
theorem dX6_count_108 : decode cX6_count 108 = .ok (.lload_n 1, 1) := by decide +kernel
theorem dX6_count_109 : decode cX6_count 109 = .ok (.iload 15, 2) := by decide +kernel
theorem dX6_count_111 : decode cX6_count 111 = .ok (.iload 17, 2) := by decide +kernel
theorem dX6_count_113 : decode cX6_count 113 = .ok (.invokestatic 55, 3) := by decide +kernel
theorem dX6_count_116 : decode cX6_count 116 = .ok (.iload_n 3, 1) := by decide +kernel
theorem dX6_count_117 : decode cX6_count 117 = .ok (.iload 4, 2) := by decide +kernel
theorem dX6_count_119 : decode cX6_count 119 = .ok (.iconst 1, 1) := by decide +kernel
theorem dX6_count_120 : decode cX6_count 120 = .ok (.iadd, 1) := by decide +kernel
theorem dX6_count_121 : decode cX6_count 121 = .ok (.invokevirtual 35, 3) := by decide +kernel
theorem dX6_count_124 : decode cX6_count 124 = .ok (.istore 18, 2) := by decide +kernel
theorem dX6_count_126 : decode cX6_count 126 = .ok (.iload 18, 2) := by decide +kernel
theorem dX6_count_128 : decode cX6_count 128 = .ok (.ifCond .ge 6, 3) := by decide +kernel
theorem dX6_count_131 : decode cX6_count 131 = .ok (.goto 74, 3) := by decide +kernel
theorem dX6_count_134 : decode cX6_count 134 = .ok (.lload 8, 2) := by decide +kernel
theorem dX6_count_136 : decode cX6_count 136 = .ok (.aload_n 0, 1) := by decide +kernel
theorem dX6_count_137 : decode cX6_count 137 = .ok (.getfield 18, 3) := by decide +kernel
theorem dX6_count_140 : decode cX6_count 140 = .ok (.iload 18, 2) := by decide +kernel
theorem dX6_count_142 : decode cX6_count 142 = .ok (.laload, 1) := by decide +kernel
theorem dX6_count_143 : decode cX6_count 143 = .ok (.ladd, 1) := by decide +kernel
theorem dX6_count_144 : decode cX6_count 144 = .ok (.lstore 8, 2) := by decide +kernel
theorem dX6_count_146 : decode cX6_count 146 = .ok (.lload 10, 2) := by decide +kernel
theorem dX6_count_148 : decode cX6_count 148 = .ok (.aload_n 0, 1) := by decide +kernel
theorem dX6_count_149 : decode cX6_count 149 = .ok (.getfield 22, 3) := by decide +kernel
theorem dX6_count_152 : decode cX6_count 152 = .ok (.iload 18, 2) := by decide +kernel
theorem dX6_count_154 : decode cX6_count 154 = .ok (.laload, 1) := by decide +kernel
theorem dX6_count_155 : decode cX6_count 155 = .ok (.ladd, 1) := by decide +kernel
theorem dX6_count_156 : decode cX6_count 156 = .ok (.lstore 10, 2) := by decide +kernel
theorem dX6_count_158 : decode cX6_count 158 = .ok (.aload_n 0, 1) := by decide +kernel
theorem dX6_count_159 : decode cX6_count 159 = .ok (.getfield 22, 3) := by decide +kernel
theorem dX6_count_162 : decode cX6_count 162 = .ok (.iload 18, 2) := by decide +kernel
theorem dX6_count_164 : decode cX6_count 164 = .ok (.laload, 1) := by decide +kernel
theorem dX6_count_165 : decode cX6_count 165 = .ok (.lconst 0, 1) := by decide +kernel
theorem dX6_count_166 : decode cX6_count 166 = .ok (.lcmp, 1) := by decide +kernel
theorem dX6_count_167 : decode cX6_count 167 = .ok (.ifCond .ne 6, 3) := by decide +kernel
theorem dX6_count_170 : decode cX6_count 170 = .ok (.goto 35, 3) := by decide +kernel
theorem dX6_count_173 : decode cX6_count 173 = .ok (.iload 12, 2) := by decide +kernel
theorem dX6_count_175 : decode cX6_count 175 = .ok (.aload_n 0, 1) := by decide +kernel
theorem dX6_count_176 : decode cX6_count 176 = .ok (.getfield 25, 3) := by decide +kernel
theorem dX6_count_179 : decode cX6_count 179 = .ok (.iload 18, 2) := by decide +kernel
theorem dX6_count_181 : decode cX6_count 181 = .ok (.baload, 1) := by decide +kernel
theorem dX6_count_182 : decode cX6_count 182 = .ok (.iconst 1, 1) := by decide +kernel
theorem dX6_count_183 : decode cX6_count 183 = .ok (.iadd, 1) := by decide +kernel
theorem dX6_count_184 : decode cX6_count 184 = .ok (.invokestatic 76, 3) := by decide +kernel
theorem dX6_count_187 : decode cX6_count 187 = .ok (.istore 12, 2) := by decide +kernel
theorem dX6_count_189 : decode cX6_count 189 = .ok (.iload 13, 2) := by decide +kernel
theorem dX6_count_191 : decode cX6_count 191 = .ok (.aload_n 0, 1) := by decide +kernel
theorem dX6_count_192 : decode cX6_count 192 = .ok (.getfield 29, 3) := by decide +kernel
theorem dX6_count_195 : decode cX6_count 195 = .ok (.iload 18, 2) := by decide +kernel
theorem dX6_count_197 : decode cX6_count 197 = .ok (.baload, 1) := by decide +kernel
theorem dX6_count_198 : decode cX6_count 198 = .ok (.iconst 1, 1) := by decide +kernel
theorem dX6_count_199 : decode cX6_count 199 = .ok (.iadd, 1) := by decide +kernel
theorem dX6_count_200 : decode cX6_count 200 = .ok (.invokestatic 81, 3) := by decide +kernel
theorem dX6_count_203 : decode cX6_count 203 = .ok (.istore 13, 2) := by decide +kernel
theorem dX6_count_205 : decode cX6_count 205 = .ok (.iinc 17 1, 3) := by decide +kernel
theorem dX6_count_208 : decode cX6_count 208 = .ok (.goto (-121), 3) := by decide +kernel
theorem dX6_count_211 : decode cX6_count 211 = .ok (.iinc 15 1, 3) := by decide +kernel
theorem dX6_count_214 : decode cX6_count 214 = .ok (.goto (-146), 3) := by decide +kernel
theorem dX6_count_217 : decode cX6_count 217 = .ok (.lload 8, 2) := by decide +kernel
theorem dX6_count_219 : decode cX6_count 219 = .ok (.lconst 0, 1) := by decide +kernel
theorem dX6_count_220 : decode cX6_count 220 = .ok (.lcmp, 1) := by decide +kernel
theorem dX6_count_221 : decode cX6_count 221 = .ok (.ifCond .le 18, 3) := by decide +kernel
theorem dX6_count_224 : decode cX6_count 224 = .ok (.aload_n 0, 1) := by decide +kernel
theorem dX6_count_225 : decode cX6_count 225 = .ok (.lload 5, 2) := by decide +kernel
theorem dX6_count_227 : decode cX6_count 227 = .ok (.lload 8, 2) := by decide +kernel
theorem dX6_count_229 : decode cX6_count 229 = .ok (.lload 10, 2) := by decide +kernel
theorem dX6_count_231 : decode cX6_count 231 = .ok (.iload 12, 2) := by decide +kernel
theorem dX6_count_233 : decode cX6_count 233 = .ok (.iload 13, 2) := by decide +kernel
theorem dX6_count_235 : decode cX6_count 235 = .ok (.invokevirtual 84, 3) := by decide +kernel
theorem dX6_count_238 : decode cX6_count 238 = .ok (.ireturn, 1) := by decide +kernel
theorem dX6_count_239 : decode cX6_count 239 = .ok (.aload_n 0, 1) := by decide +kernel
theorem dX6_count_240 : decode cX6_count 240 = .ok (.lload 5, 2) := by decide +kernel
theorem dX6_count_242 : decode cX6_count 242 = .ok (.lconst 1, 1) := by decide +kernel
theorem dX6_count_243 : decode cX6_count 243 = .ok (.lload_n 1, 1) := by decide +kernel
theorem dX6_count_244 : decode cX6_count 244 = .ok (.invokestatic 88, 3) := by decide +kernel
theorem dX6_count_247 : decode cX6_count 247 = .ok (.invokestatic 92, 3) := by decide +kernel
theorem dX6_count_250 : decode cX6_count 250 = .ok (.i2l, 1) := by decide +kernel
theorem dX6_count_251 : decode cX6_count 251 = .ok (.iconst 0, 1) := by decide +kernel
theorem dX6_count_252 : decode cX6_count 252 = .ok (.iconst 0, 1) := by decide +kernel
theorem dX6_count_253 : decode cX6_count 253 = .ok (.invokevirtual 84, 3) := by decide +kernel
theorem dX6_count_256 : decode cX6_count 256 = .ok (.ireturn, 1) := by decide +kernel
theorem dX6_keep_0 : decode cX6_keep 0 = .ok (.aload_n 0, 1) := by decide +kernel
theorem dX6_keep_1 : decode cX6_keep 1 = .ok (.getfield 12, 3) := by decide +kernel
theorem dX6_keep_4 : decode cX6_keep 4 = .ok (.lload_n 1, 1) := by decide +kernel
theorem dX6_keep_5 : decode cX6_keep 5 = .ok (.invokevirtual 96, 3) := by decide +kernel
theorem dX6_keep_8 : decode cX6_keep 8 = .ok (.istore 9, 2) := by decide +kernel
theorem dX6_keep_10 : decode cX6_keep 10 = .ok (.iload 9, 2) := by decide +kernel
theorem dX6_keep_12 : decode cX6_keep 12 = .ok (.ifCond .ge 6, 3) := by decide +kernel
theorem dX6_keep_15 : decode cX6_keep 15 = .ok (.iload 9, 2) := by decide +kernel
theorem dX6_keep_17 : decode cX6_keep 17 = .ok (.ireturn, 1) := by decide +kernel
theorem dX6_keep_18 : decode cX6_keep 18 = .ok (.aload_n 0, 1) := by decide +kernel
theorem dX6_keep_19 : decode cX6_keep 19 = .ok (.getfield 18, 3) := by decide +kernel
theorem dX6_keep_22 : decode cX6_keep 22 = .ok (.iload 9, 2) := by decide +kernel
theorem dX6_keep_24 : decode cX6_keep 24 = .ok (.lload_n 3, 1) := by decide +kernel
theorem dX6_keep_25 : decode cX6_keep 25 = .ok (.lastore, 1) := by decide +kernel
theorem dX6_keep_26 : decode cX6_keep 26 = .ok (.aload_n 0, 1) := by decide +kernel
theorem dX6_keep_27 : decode cX6_keep 27 = .ok (.getfield 22, 3) := by decide +kernel
theorem dX6_keep_30 : decode cX6_keep 30 = .ok (.iload 9, 2) := by decide +kernel
theorem dX6_keep_32 : decode cX6_keep 32 = .ok (.lload 5, 2) := by decide +kernel
theorem dX6_keep_34 : decode cX6_keep 34 = .ok (.lastore, 1) := by decide +kernel
theorem dX6_keep_35 : decode cX6_keep 35 = .ok (.aload_n 0, 1) := by decide +kernel
theorem dX6_keep_36 : decode cX6_keep 36 = .ok (.getfield 25, 3) := by decide +kernel
theorem dX6_keep_39 : decode cX6_keep 39 = .ok (.iload 9, 2) := by decide +kernel
theorem dX6_keep_41 : decode cX6_keep 41 = .ok (.iload 7, 2) := by decide +kernel
theorem dX6_keep_43 : decode cX6_keep 43 = .ok (.i2b, 1) := by decide +kernel
theorem dX6_keep_44 : decode cX6_keep 44 = .ok (.bastore, 1) := by decide +kernel
theorem dX6_keep_45 : decode cX6_keep 45 = .ok (.aload_n 0, 1) := by decide +kernel
theorem dX6_keep_46 : decode cX6_keep 46 = .ok (.getfield 29, 3) := by decide +kernel
theorem dX6_keep_49 : decode cX6_keep 49 = .ok (.iload 9, 2) := by decide +kernel
theorem dX6_keep_51 : decode cX6_keep 51 = .ok (.iload 8, 2) := by decide +kernel
theorem dX6_keep_53 : decode cX6_keep 53 = .ok (.i2b, 1) := by decide +kernel
theorem dX6_keep_54 : decode cX6_keep 54 = .ok (.bastore, 1) := by decide +kernel
theorem dX6_keep_55 : decode cX6_keep 55 = .ok (.iload 9, 2) := by decide +kernel
theorem dX6_keep_57 : decode cX6_keep 57 = .ok (.ireturn, 1) := by decide +kernel
theorem dX6_include_0 : decode cX6_include 0 = .ok (.iload 5, 2) := by decide +kernel
theorem dX6_include_2 : decode cX6_include 2 = .ok (.ifCond .ne 10, 3) := by decide +kernel
theorem dX6_include_5 : decode cX6_include 5 = .ok (.aload_n 0, 1) := by decide +kernel
theorem dX6_include_6 : decode cX6_include 6 = .ok (.getfield 32, 3) := by decide +kernel
theorem dX6_include_9 : decode cX6_include 9 = .ok (.invokevirtual 67, 3) := by decide +kernel
theorem dX6_include_12 : decode cX6_include 12 = .ok (.lload_n 1, 1) := by decide +kernel
theorem dX6_include_13 : decode cX6_include 13 = .ok (.iload_n 3, 1) := by decide +kernel
theorem dX6_include_14 : decode cX6_include 14 = .ok (.iload 4, 2) := by decide +kernel
theorem dX6_include_16 : decode cX6_include 16 = .ok (.invokestatic 70, 3) := by decide +kernel
theorem dX6_include_19 : decode cX6_include 19 = .ok (.lstore 6, 2) := by decide +kernel
theorem dX6_include_21 : decode cX6_include 21 = .ok (.iload 5, 2) := by decide +kernel
theorem dX6_include_23 : decode cX6_include 23 = .ok (.bipush 12, 2) := by decide +kernel
theorem dX6_include_25 : decode cX6_include 25 = .ok (.if_icmp .gt 15, 3) := by decide +kernel
theorem dX6_include_28 : decode cX6_include 28 = .ok (.aload_n 0, 1) := by decide +kernel
theorem dX6_include_29 : decode cX6_include 29 = .ok (.getfield 32, 3) := by decide +kernel
theorem dX6_include_32 : decode cX6_include 32 = .ok (.lload 6, 2) := by decide +kernel
theorem dX6_include_34 : decode cX6_include 34 = .ok (.invokevirtual 73, 3) := by decide +kernel
theorem dX6_include_37 : decode cX6_include 37 = .ok (.ifCond .lt 5, 3) := by decide +kernel
theorem dX6_include_40 : decode cX6_include 40 = .ok (.iconst 1, 1) := by decide +kernel
theorem dX6_include_41 : decode cX6_include 41 = .ok (.ireturn, 1) := by decide +kernel
theorem dX6_include_42 : decode cX6_include 42 = .ok (.lload_n 1, 1) := by decide +kernel
theorem dX6_include_43 : decode cX6_include 43 = .ok (.invokestatic 42, 3) := by decide +kernel
theorem dX6_include_46 : decode cX6_include 46 = .ok (.istore 8, 2) := by decide +kernel
theorem dX6_include_48 : decode cX6_include 48 = .ok (.iconst 0, 1) := by decide +kernel
theorem dX6_include_49 : decode cX6_include 49 = .ok (.istore 9, 2) := by decide +kernel
theorem dX6_include_51 : decode cX6_include 51 = .ok (.iload 9, 2) := by decide +kernel
theorem dX6_include_53 : decode cX6_include 53 = .ok (.iload 8, 2) := by decide +kernel
theorem dX6_include_55 : decode cX6_include 55 = .ok (.if_icmp .ge 89, 3) := by decide +kernel
theorem dX6_include_58 : decode cX6_include 58 = .ok (.lload_n 1, 1) := by decide +kernel
theorem dX6_include_59 : decode cX6_include 59 = .ok (.iload_n 3, 1) := by decide +kernel
theorem dX6_include_60 : decode cX6_include 60 = .ok (.iload 9, 2) := by decide +kernel
theorem dX6_include_62 : decode cX6_include 62 = .ok (.invokestatic 48, 3) := by decide +kernel
theorem dX6_include_65 : decode cX6_include 65 = .ok (.istore 10, 2) := by decide +kernel
theorem dX6_include_67 : decode cX6_include 67 = .ok (.iload 10, 2) := by decide +kernel
theorem dX6_include_69 : decode cX6_include 69 = .ok (.lload_n 1, 1) := by decide +kernel
theorem dX6_include_70 : decode cX6_include 70 = .ok (.iload 4, 2) := by decide +kernel
theorem dX6_include_72 : decode cX6_include 72 = .ok (.iload 9, 2) := by decide +kernel
theorem dX6_include_74 : decode cX6_include 74 = .ok (.invokestatic 48, 3) := by decide +kernel
theorem dX6_include_77 : decode cX6_include 77 = .ok (.iconst (-1), 1) := by decide +kernel
theorem dX6_include_78 : decode cX6_include 78 = .ok (.ixor, 1) := by decide +kernel
theorem dX6_include_79 : decode cX6_include 79 = .ok (.iand, 1) := by decide +kernel
theorem dX6_include_80 : decode cX6_include 80 = .ok (.ifCond .eq 5, 3) := by decide +kernel
theorem dX6_include_83 : decode cX6_include 83 = .ok (.iconst 0, 1) := by decide +kernel
theorem dX6_include_84 : decode cX6_include 84 = .ok (.ireturn, 1) := by decide +kernel
theorem dX6_include_85 : decode cX6_include 85 = .ok (.iconst 0, 1) := by decide +kernel
theorem dX6_include_86 : decode cX6_include 86 = .ok (.istore 11, 2) := by decide +kernel
theorem dX6_include_88 : decode cX6_include 88 = .ok (.iload 11, 2) := by decide +kernel
theorem dX6_include_90 : decode cX6_include 90 = .ok (.iload 8, 2) := by decide +kernel
theorem dX6_include_92 : decode cX6_include 92 = .ok (.if_icmp .ge 46, 3) := by decide +kernel
theorem dX6_include_95 : decode cX6_include 95 = .ok (.iload 10, 2) := by decide +kernel
theorem dX6_include_97 : decode cX6_include 97 = .ok (.iload 11, 2) := by decide +kernel
theorem dX6_include_99 : decode cX6_include 99 = .ok (.invokestatic 51, 3) := by decide +kernel
theorem dX6_include_102 : decode cX6_include 102 = .ok (.ifCond .ne 6, 3) := by decide +kernel
theorem dX6_include_105 : decode cX6_include 105 = .ok (.goto 27, 3) := by decide +kernel
theorem dX6_include_108 : decode cX6_include 108 = .ok (.aload_n 0, 1) := by decide +kernel
theorem dX6_include_109 : decode cX6_include 109 = .ok (.lload_n 1, 1) := by decide +kernel
theorem dX6_include_110 : decode cX6_include 110 = .ok (.iload 9, 2) := by decide +kernel
theorem dX6_include_112 : decode cX6_include 112 = .ok (.iload 11, 2) := by decide +kernel
theorem dX6_include_114 : decode cX6_include 114 = .ok (.invokestatic 55, 3) := by decide +kernel
theorem dX6_include_117 : decode cX6_include 117 = .ok (.iload_n 3, 1) := by decide +kernel
theorem dX6_include_118 : decode cX6_include 118 = .ok (.iload 4, 2) := by decide +kernel
theorem dX6_include_120 : decode cX6_include 120 = .ok (.iload 5, 2) := by decide +kernel
theorem dX6_include_122 : decode cX6_include 122 = .ok (.iconst 1, 1) := by decide +kernel
theorem dX6_include_123 : decode cX6_include 123 = .ok (.iadd, 1) := by decide +kernel
theorem dX6_include_124 : decode cX6_include 124 = .ok (.invokevirtual 63, 3) := by decide +kernel
theorem dX6_include_127 : decode cX6_include 127 = .ok (.ifCond .ne 5, 3) := by decide +kernel
theorem dX6_include_130 : decode cX6_include 130 = .ok (.iconst 0, 1) := by decide +kernel
theorem dX6_include_131 : decode cX6_include 131 = .ok (.ireturn, 1) := by decide +kernel
theorem dX6_include_132 : decode cX6_include 132 = .ok (.iinc 11 1, 3) := by decide +kernel
theorem dX6_include_135 : decode cX6_include 135 = .ok (.goto (-47), 3) := by decide +kernel
theorem dX6_include_138 : decode cX6_include 138 = .ok (.iinc 9 1, 3) := by decide +kernel
theorem dX6_include_141 : decode cX6_include 141 = .ok (.goto (-90), 3) := by decide +kernel
theorem dX6_include_144 : decode cX6_include 144 = .ok (.aload_n 0, 1) := by decide +kernel
theorem dX6_include_145 : decode cX6_include 145 = .ok (.getfield 32, 3) := by decide +kernel
theorem dX6_include_148 : decode cX6_include 148 = .ok (.lload 6, 2) := by decide +kernel
theorem dX6_include_150 : decode cX6_include 150 = .ok (.invokevirtual 96, 3) := by decide +kernel
theorem dX6_include_153 : decode cX6_include 153 = .ok (.pop, 1) := by decide +kernel
theorem dX6_include_154 : decode cX6_include 154 = .ok (.iconst 1, 1) := by decide +kernel
theorem dX6_include_155 : decode cX6_include 155 = .ok (.ireturn, 1) := by decide +kernel
theorem dX7_init_0 : decode cX7_init 0 = .ok (.aload_n 0, 1) := by decide +kernel
theorem dX7_init_1 : decode cX7_init 1 = .ok (.invokespecial 1, 3) := by decide +kernel
theorem dX7_init_4 : decode cX7_init 4 = .ok (.aload_n 0, 1) := by decide +kernel
theorem dX7_init_5 : decode cX7_init 5 = .ok (.iload_n 1, 1) := by decide +kernel
theorem dX7_init_6 : decode cX7_init 6 = .ok (.putfield 7, 3) := by decide +kernel
theorem dX7_init_9 : decode cX7_init 9 = .ok (.aload_n 0, 1) := by decide +kernel
theorem dX7_init_10 : decode cX7_init 10 = .ok (.iload_n 2, 1) := by decide +kernel
theorem dX7_init_11 : decode cX7_init 11 = .ok (.newarray .int, 2) := by decide +kernel
theorem dX7_init_13 : decode cX7_init 13 = .ok (.putfield 13, 3) := by decide +kernel
theorem dX7_init_16 : decode cX7_init 16 = .ok (.return_, 1) := by decide +kernel
theorem dX7_has_0 : decode cX7_has 0 = .ok (.iload_n 1, 1) := by decide +kernel
theorem dX7_has_1 : decode cX7_has 1 = .ok (.ifCond .lt 22, 3) := by decide +kernel
theorem dX7_has_4 : decode cX7_has 4 = .ok (.iload_n 2, 1) := by decide +kernel
theorem dX7_has_5 : decode cX7_has 5 = .ok (.ifCond .lt 18, 3) := by decide +kernel
theorem dX7_has_8 : decode cX7_has 8 = .ok (.iload_n 1, 1) := by decide +kernel
theorem dX7_has_9 : decode cX7_has 9 = .ok (.aload_n 0, 1) := by decide +kernel
theorem dX7_has_10 : decode cX7_has 10 = .ok (.getfield 13, 3) := by decide +kernel
theorem dX7_has_13 : decode cX7_has 13 = .ok (.arraylength, 1) := by decide +kernel
theorem dX7_has_14 : decode cX7_has 14 = .ok (.iload_n 2, 1) := by decide +kernel
theorem dX7_has_15 : decode cX7_has 15 = .ok (.isub, 1) := by decide +kernel
theorem dX7_has_16 : decode cX7_has 16 = .ok (.if_icmp .gt 7, 3) := by decide +kernel
theorem dX7_has_19 : decode cX7_has 19 = .ok (.iconst 1, 1) := by decide +kernel
theorem dX7_has_20 : decode cX7_has 20 = .ok (.goto 4, 3) := by decide +kernel
theorem dX7_has_23 : decode cX7_has 23 = .ok (.iconst 0, 1) := by decide +kernel
theorem dX7_has_24 : decode cX7_has 24 = .ok (.ireturn, 1) := by decide +kernel
theorem dX7_at_0 : decode cX7_at 0 = .ok (.aload_n 0, 1) := by decide +kernel
theorem dX7_at_1 : decode cX7_at 1 = .ok (.iload_n 1, 1) := by decide +kernel
theorem dX7_at_2 : decode cX7_at 2 = .ok (.iconst 1, 1) := by decide +kernel
theorem dX7_at_3 : decode cX7_at 3 = .ok (.invokevirtual 17, 3) := by decide +kernel
theorem dX7_at_6 : decode cX7_at 6 = .ok (.ifCond .eq 12, 3) := by decide +kernel
theorem dX7_at_9 : decode cX7_at 9 = .ok (.aload_n 0, 1) := by decide +kernel
theorem dX7_at_10 : decode cX7_at 10 = .ok (.getfield 13, 3) := by decide +kernel
theorem dX7_at_13 : decode cX7_at 13 = .ok (.iload_n 1, 1) := by decide +kernel
theorem dX7_at_14 : decode cX7_at 14 = .ok (.iaload, 1) := by decide +kernel
theorem dX7_at_15 : decode cX7_at 15 = .ok (.goto 4, 3) := by decide +kernel
theorem dX7_at_18 : decode cX7_at 18 = .ok (.iconst 0, 1) := by decide +kernel
theorem dX7_at_19 : decode cX7_at 19 = .ok (.ireturn, 1) := by decide +kernel
theorem dX7_set_0 : decode cX7_set 0 = .ok (.aload_n 0, 1) := by decide +kernel
theorem dX7_set_1 : decode cX7_set 1 = .ok (.iload_n 1, 1) := by decide +kernel
theorem dX7_set_2 : decode cX7_set 2 = .ok (.iconst 1, 1) := by decide +kernel
theorem dX7_set_3 : decode cX7_set 3 = .ok (.invokevirtual 17, 3) := by decide +kernel
theorem dX7_set_6 : decode cX7_set 6 = .ok (.ifCond .eq 14, 3) := by decide +kernel
theorem dX7_set_9 : decode cX7_set 9 = .ok (.aload_n 0, 1) := by decide +kernel
theorem dX7_set_10 : decode cX7_set 10 = .ok (.getfield 13, 3) := by decide +kernel
theorem dX7_set_13 : decode cX7_set 13 = .ok (.iload_n 1, 1) := by decide +kernel
theorem dX7_set_14 : decode cX7_set 14 = .ok (.aload_n 0, 1) := by decide +kernel
theorem dX7_set_15 : decode cX7_set 15 = .ok (.iload_n 2, 1) := by decide +kernel
theorem dX7_set_16 : decode cX7_set 16 = .ok (.invokevirtual 21, 3) := by decide +kernel
theorem dX7_set_19 : decode cX7_set 19 = .ok (.iastore, 1) := by decide +kernel
theorem dX7_set_20 : decode cX7_set 20 = .ok (.return_, 1) := by decide +kernel
theorem dX7_cut_0 : decode cX7_cut 0 = .ok (.aload_n 0, 1) := by decide +kernel
theorem dX7_cut_1 : decode cX7_cut 1 = .ok (.getfield 7, 3) := by decide +kernel
theorem dX7_cut_4 : decode cX7_cut 4 = .ok (.ifCond .ne 8, 3) := by decide +kernel
theorem dX7_cut_7 : decode cX7_cut 7 = .ok (.iload_n 1, 1) := by decide +kernel
theorem dX7_cut_8 : decode cX7_cut 8 = .ok (.i2b, 1) := by decide +kernel
theorem dX7_cut_9 : decode cX7_cut 9 = .ok (.goto 17, 3) := by decide +kernel
theorem dX7_cut_12 : decode cX7_cut 12 = .ok (.aload_n 0, 1) := by decide +kernel
theorem dX7_cut_13 : decode cX7_cut 13 = .ok (.getfield 7, 3) := by decide +kernel
theorem dX7_cut_16 : decode cX7_cut 16 = .ok (.iconst 1, 1) := by decide +kernel
theorem dX7_cut_17 : decode cX7_cut 17 = .ok (.if_icmp .ne 8, 3) := by decide +kernel
theorem dX7_cut_20 : decode cX7_cut 20 = .ok (.iload_n 1, 1) := by decide +kernel
theorem dX7_cut_21 : decode cX7_cut 21 = .ok (.i2s, 1) := by decide +kernel
theorem dX7_cut_22 : decode cX7_cut 22 = .ok (.goto 4, 3) := by decide +kernel
theorem dX7_cut_25 : decode cX7_cut 25 = .ok (.iload_n 1, 1) := by decide +kernel
theorem dX7_cut_26 : decode cX7_cut 26 = .ok (.ireturn, 1) := by decide +kernel
theorem dX8_init_0 : decode cX8_init 0 = .ok (.aload_n 0, 1) := by decide +kernel
theorem dX8_init_1 : decode cX8_init 1 = .ok (.invokespecial 3, 3) := by decide +kernel
theorem dX8_init_4 : decode cX8_init 4 = .ok (.aload_n 0, 1) := by decide +kernel
theorem dX8_init_5 : decode cX8_init 5 = .ok (.sipush 8192, 3) := by decide +kernel
theorem dX8_init_8 : decode cX8_init 8 = .ok (.newarray .long, 2) := by decide +kernel
theorem dX8_init_10 : decode cX8_init 10 = .ok (.putfield 9, 3) := by decide +kernel
theorem dX8_init_13 : decode cX8_init 13 = .ok (.return_, 1) := by decide +kernel
theorem dX8_makeRoom_0 : decode cX8_makeRoom 0 = .ok (.aload_n 0, 1) := by decide +kernel
theorem dX8_makeRoom_1 : decode cX8_makeRoom 1 = .ok (.getfield 13, 3) := by decide +kernel
theorem dX8_makeRoom_4 : decode cX8_makeRoom 4 = .ok (.sipush 6144, 3) := by decide +kernel
theorem dX8_makeRoom_7 : decode cX8_makeRoom 7 = .ok (.if_icmp .gt 4, 3) := by decide +kernel
theorem dX8_makeRoom_10 : decode cX8_makeRoom 10 = .ok (.return_, 1) := by decide +kernel
theorem dX8_makeRoom_11 : decode cX8_makeRoom 11 = .ok (.aload_n 0, 1) := by decide +kernel
theorem dX8_makeRoom_12 : decode cX8_makeRoom 12 = .ok (.getfield 9, 3) := by decide +kernel
theorem dX8_makeRoom_15 : decode cX8_makeRoom 15 = .ok (.lconst 0, 1) := by decide +kernel
theorem dX8_makeRoom_16 : decode cX8_makeRoom 16 = .ok (.invokestatic 17, 3) := by decide +kernel
theorem dX8_makeRoom_19 : decode cX8_makeRoom 19 = .ok (.aload_n 0, 1) := by decide +kernel
theorem dX8_makeRoom_20 : decode cX8_makeRoom 20 = .ok (.iconst 0, 1) := by decide +kernel
theorem dX8_makeRoom_21 : decode cX8_makeRoom 21 = .ok (.putfield 13, 3) := by decide +kernel
theorem dX8_makeRoom_24 : decode cX8_makeRoom 24 = .ok (.return_, 1) := by decide +kernel
theorem dX8_find_0 : decode cX8_find 0 = .ok (.aload_n 0, 1) := by decide +kernel
theorem dX8_find_1 : decode cX8_find 1 = .ok (.lload_n 1, 1) := by decide +kernel
theorem dX8_find_2 : decode cX8_find 2 = .ok (.invokevirtual 23, 3) := by decide +kernel
theorem dX8_find_5 : decode cX8_find 5 = .ok (.istore_n 3, 1) := by decide +kernel
theorem dX8_find_6 : decode cX8_find 6 = .ok (.iload_n 3, 1) := by decide +kernel
theorem dX8_find_7 : decode cX8_find 7 = .ok (.ifCond .lt 18, 3) := by decide +kernel
theorem dX8_find_10 : decode cX8_find 10 = .ok (.aload_n 0, 1) := by decide +kernel
theorem dX8_find_11 : decode cX8_find 11 = .ok (.getfield 9, 3) := by decide +kernel
theorem dX8_find_14 : decode cX8_find 14 = .ok (.iload_n 3, 1) := by decide +kernel
theorem dX8_find_15 : decode cX8_find 15 = .ok (.laload, 1) := by decide +kernel
theorem dX8_find_16 : decode cX8_find 16 = .ok (.lload_n 1, 1) := by decide +kernel
theorem dX8_find_17 : decode cX8_find 17 = .ok (.lcmp, 1) := by decide +kernel
theorem dX8_find_18 : decode cX8_find 18 = .ok (.ifCond .ne 7, 3) := by decide +kernel
theorem dX8_find_21 : decode cX8_find 21 = .ok (.iload_n 3, 1) := by decide +kernel
theorem dX8_find_22 : decode cX8_find 22 = .ok (.goto 4, 3) := by decide +kernel
theorem dX8_find_25 : decode cX8_find 25 = .ok (.iconst (-1), 1) := by decide +kernel
theorem dX8_find_26 : decode cX8_find 26 = .ok (.ireturn, 1) := by decide +kernel
theorem dX8_take_0 : decode cX8_take 0 = .ok (.aload_n 0, 1) := by decide +kernel
theorem dX8_take_1 : decode cX8_take 1 = .ok (.lload_n 1, 1) := by decide +kernel
theorem dX8_take_2 : decode cX8_take 2 = .ok (.invokevirtual 23, 3) := by decide +kernel
theorem dX8_take_5 : decode cX8_take 5 = .ok (.istore_n 3, 1) := by decide +kernel
theorem dX8_take_6 : decode cX8_take 6 = .ok (.iload_n 3, 1) := by decide +kernel
theorem dX8_take_7 : decode cX8_take 7 = .ok (.ifCond .lt 31, 3) := by decide +kernel
theorem dX8_take_10 : decode cX8_take 10 = .ok (.aload_n 0, 1) := by decide +kernel
theorem dX8_take_11 : decode cX8_take 11 = .ok (.getfield 9, 3) := by decide +kernel
theorem dX8_take_14 : decode cX8_take 14 = .ok (.iload_n 3, 1) := by decide +kernel
theorem dX8_take_15 : decode cX8_take 15 = .ok (.laload, 1) := by decide +kernel
theorem dX8_take_16 : decode cX8_take 16 = .ok (.lconst 0, 1) := by decide +kernel
theorem dX8_take_17 : decode cX8_take 17 = .ok (.lcmp, 1) := by decide +kernel
theorem dX8_take_18 : decode cX8_take 18 = .ok (.ifCond .ne 20, 3) := by decide +kernel
theorem dX8_take_21 : decode cX8_take 21 = .ok (.aload_n 0, 1) := by decide +kernel
theorem dX8_take_22 : decode cX8_take 22 = .ok (.getfield 9, 3) := by decide +kernel
theorem dX8_take_25 : decode cX8_take 25 = .ok (.iload_n 3, 1) := by decide +kernel
theorem dX8_take_26 : decode cX8_take 26 = .ok (.lload_n 1, 1) := by decide +kernel
theorem dX8_take_27 : decode cX8_take 27 = .ok (.lastore, 1) := by decide +kernel
theorem dX8_take_28 : decode cX8_take 28 = .ok (.aload_n 0, 1) := by decide +kernel
theorem dX8_take_29 : decode cX8_take 29 = .ok (.dup, 1) := by decide +kernel
theorem dX8_take_30 : decode cX8_take 30 = .ok (.getfield 13, 3) := by decide +kernel
theorem dX8_take_33 : decode cX8_take 33 = .ok (.iconst 1, 1) := by decide +kernel
theorem dX8_take_34 : decode cX8_take 34 = .ok (.iadd, 1) := by decide +kernel
theorem dX8_take_35 : decode cX8_take 35 = .ok (.putfield 13, 3) := by decide +kernel
theorem dX8_take_38 : decode cX8_take 38 = .ok (.iload_n 3, 1) := by decide +kernel
theorem dX8_take_39 : decode cX8_take 39 = .ok (.ireturn, 1) := by decide +kernel
theorem dX8_slotFor_0 : decode cX8_slotFor 0 = .ok (.lload_n 1, 1) := by decide +kernel
theorem dX8_slotFor_1 : decode cX8_slotFor 1 = .ok (.ldc2_w 27, 3) := by decide +kernel
theorem dX8_slotFor_4 : decode cX8_slotFor 4 = .ok (.lmul, 1) := by decide +kernel
theorem dX8_slotFor_5 : decode cX8_slotFor 5 = .ok (.bipush 51, 2) := by decide +kernel
theorem dX8_slotFor_7 : decode cX8_slotFor 7 = .ok (.lushr, 1) := by decide +kernel
theorem dX8_slotFor_8 : decode cX8_slotFor 8 = .ok (.l2i, 1) := by decide +kernel
theorem dX8_slotFor_9 : decode cX8_slotFor 9 = .ok (.istore_n 3, 1) := by decide +kernel
theorem dX8_slotFor_10 : decode cX8_slotFor 10 = .ok (.iconst 0, 1) := by decide +kernel
theorem dX8_slotFor_11 : decode cX8_slotFor 11 = .ok (.istore 4, 2) := by decide +kernel
theorem dX8_slotFor_13 : decode cX8_slotFor 13 = .ok (.iload 4, 2) := by decide +kernel
theorem dX8_slotFor_15 : decode cX8_slotFor 15 = .ok (.sipush 8192, 3) := by decide +kernel
theorem dX8_slotFor_18 : decode cX8_slotFor 18 = .ok (.if_icmp .ge 46, 3) := by decide +kernel
theorem dX8_slotFor_21 : decode cX8_slotFor 21 = .ok (.iload_n 3, 1) := by decide +kernel
theorem dX8_slotFor_22 : decode cX8_slotFor 22 = .ok (.iload 4, 2) := by decide +kernel
theorem dX8_slotFor_24 : decode cX8_slotFor 24 = .ok (.iadd, 1) := by decide +kernel
theorem dX8_slotFor_25 : decode cX8_slotFor 25 = .ok (.sipush 8191, 3) := by decide +kernel
theorem dX8_slotFor_28 : decode cX8_slotFor 28 = .ok (.iand, 1) := by decide +kernel
theorem dX8_slotFor_29 : decode cX8_slotFor 29 = .ok (.istore 5, 2) := by decide +kernel
theorem dX8_slotFor_31 : decode cX8_slotFor 31 = .ok (.aload_n 0, 1) := by decide +kernel
theorem dX8_slotFor_32 : decode cX8_slotFor 32 = .ok (.getfield 9, 3) := by decide +kernel
theorem dX8_slotFor_35 : decode cX8_slotFor 35 = .ok (.iload 5, 2) := by decide +kernel
theorem dX8_slotFor_37 : decode cX8_slotFor 37 = .ok (.laload, 1) := by decide +kernel
theorem dX8_slotFor_38 : decode cX8_slotFor 38 = .ok (.lload_n 1, 1) := by decide +kernel
theorem dX8_slotFor_39 : decode cX8_slotFor 39 = .ok (.lcmp, 1) := by decide +kernel
theorem dX8_slotFor_40 : decode cX8_slotFor 40 = .ok (.ifCond .eq 15, 3) := by decide +kernel
theorem dX8_slotFor_43 : decode cX8_slotFor 43 = .ok (.aload_n 0, 1) := by decide +kernel
theorem dX8_slotFor_44 : decode cX8_slotFor 44 = .ok (.getfield 9, 3) := by decide +kernel
theorem dX8_slotFor_47 : decode cX8_slotFor 47 = .ok (.iload 5, 2) := by decide +kernel
theorem dX8_slotFor_49 : decode cX8_slotFor 49 = .ok (.laload, 1) := by decide +kernel
theorem dX8_slotFor_50 : decode cX8_slotFor 50 = .ok (.lconst 0, 1) := by decide +kernel
theorem dX8_slotFor_51 : decode cX8_slotFor 51 = .ok (.lcmp, 1) := by decide +kernel
theorem dX8_slotFor_52 : decode cX8_slotFor 52 = .ok (.ifCond .ne 6, 3) := by decide +kernel
theorem dX8_slotFor_55 : decode cX8_slotFor 55 = .ok (.iload 5, 2) := by decide +kernel
theorem dX8_slotFor_57 : decode cX8_slotFor 57 = .ok (.ireturn, 1) := by decide +kernel
theorem dX8_slotFor_58 : decode cX8_slotFor 58 = .ok (.iinc 4 1, 3) := by decide +kernel
theorem dX8_slotFor_61 : decode cX8_slotFor 61 = .ok (.goto (-48), 3) := by decide +kernel
theorem dX8_slotFor_64 : decode cX8_slotFor 64 = .ok (.iconst (-1), 1) := by decide +kernel
theorem dX8_slotFor_65 : decode cX8_slotFor 65 = .ok (.ireturn, 1) := by decide +kernel
theorem dX9_init_0 : decode cX9_init 0 = .ok (.aload_n 0, 1) := by decide +kernel
theorem dX9_init_1 : decode cX9_init 1 = .ok (.invokespecial 1, 3) := by decide +kernel
theorem dX9_init_4 : decode cX9_init 4 = .ok (.return_, 1) := by decide +kernel
theorem dX9_leave_0 : decode cX9_leave 0 = .ok (.aload_n 0, 1) := by decide +kernel
theorem dX9_leave_1 : decode cX9_leave 1 = .ok (.bipush 31, 2) := by decide +kernel
theorem dX9_leave_3 : decode cX9_leave 3 = .ok (.aload_n 0, 1) := by decide +kernel
theorem dX9_leave_4 : decode cX9_leave 4 = .ok (.getfield 7, 3) := by decide +kernel
theorem dX9_leave_7 : decode cX9_leave 7 = .ok (.imul, 1) := by decide +kernel
theorem dX9_leave_8 : decode cX9_leave 8 = .ok (.iload_n 1, 1) := by decide +kernel
theorem dX9_leave_9 : decode cX9_leave 9 = .ok (.iadd, 1) := by decide +kernel
theorem dX9_leave_10 : decode cX9_leave 10 = .ok (.putfield 7, 3) := by decide +kernel
theorem dX9_leave_13 : decode cX9_leave 13 = .ok (.return_, 1) := by decide +kernel
theorem dX10_init_0 : decode cX10_init 0 = .ok (.aload_n 0, 1) := by decide +kernel
theorem dX10_init_1 : decode cX10_init 1 = .ok (.iload_n 1, 1) := by decide +kernel
theorem dX10_init_2 : decode cX10_init 2 = .ok (.iload_n 2, 1) := by decide +kernel
theorem dX10_init_3 : decode cX10_init 3 = .ok (.iload_n 3, 1) := by decide +kernel
theorem dX10_init_4 : decode cX10_init 4 = .ok (.lload 4, 2) := by decide +kernel
theorem dX10_init_6 : decode cX10_init 6 = .ok (.lload 6, 2) := by decide +kernel
theorem dX10_init_8 : decode cX10_init 8 = .ok (.invokespecial 1, 3) := by decide +kernel
theorem dX10_init_11 : decode cX10_init 11 = .ok (.return_, 1) := by decide +kernel
theorem dX10_kind_0 : decode cX10_kind 0 = .ok (.iconst 2, 1) := by decide +kernel
theorem dX10_kind_1 : decode cX10_kind 1 = .ok (.ireturn, 1) := by decide +kernel
theorem dX10_telling_0 : decode cX10_telling 0 = .ok (.aload_n 1, 1) := by decide +kernel
theorem dX10_telling_1 : decode cX10_telling 1 = .ok (.iconst 3, 1) := by decide +kernel
theorem dX10_telling_2 : decode cX10_telling 2 = .ok (.invokevirtual 7, 3) := by decide +kernel
theorem dX10_telling_5 : decode cX10_telling 5 = .ok (.aload_n 0, 1) := by decide +kernel
theorem dX10_telling_6 : decode cX10_telling 6 = .ok (.aload_n 1, 1) := by decide +kernel
theorem dX10_telling_7 : decode cX10_telling 7 = .ok (.invokespecial 13, 3) := by decide +kernel
theorem dX10_telling_10 : decode cX10_telling 10 = .ok (.istore_n 2, 1) := by decide +kernel
theorem dX10_telling_11 : decode cX10_telling 11 = .ok (.iload_n 2, 1) := by decide +kernel
theorem dX10_telling_12 : decode cX10_telling 12 = .ok (.aload_n 0, 1) := by decide +kernel
theorem dX10_telling_13 : decode cX10_telling 13 = .ok (.aload_n 1, 1) := by decide +kernel
theorem dX10_telling_14 : decode cX10_telling 14 = .ok (.invokevirtual 17, 3) := by decide +kernel
theorem dX10_telling_17 : decode cX10_telling 17 = .ok (.iadd, 1) := by decide +kernel
theorem dX10_telling_18 : decode cX10_telling 18 = .ok (.ireturn, 1) := by decide +kernel
theorem dX10_logged_0 : decode cX10_logged 0 = .ok (.aload_n 1, 1) := by decide +kernel
theorem dX10_logged_1 : decode cX10_logged 1 = .ok (.iconst 5, 1) := by decide +kernel
theorem dX10_logged_2 : decode cX10_logged 2 = .ok (.invokevirtual 7, 3) := by decide +kernel
theorem dX10_logged_5 : decode cX10_logged 5 = .ok (.bipush 70, 2) := by decide +kernel
theorem dX10_logged_7 : decode cX10_logged 7 = .ok (.ireturn, 1) := by decide +kernel
theorem dX11_init_0 : decode cX11_init 0 = .ok (.aload_n 0, 1) := by decide +kernel
theorem dX11_init_1 : decode cX11_init 1 = .ok (.invokespecial 3, 3) := by decide +kernel
theorem dX11_init_4 : decode cX11_init 4 = .ok (.aload_n 0, 1) := by decide +kernel
theorem dX11_init_5 : decode cX11_init 5 = .ok (.iconst 4, 1) := by decide +kernel
theorem dX11_init_6 : decode cX11_init 6 = .ok (.anewarray 11, 3) := by decide +kernel
theorem dX11_init_9 : decode cX11_init 9 = .ok (.putfield 13, 3) := by decide +kernel
theorem dX11_init_12 : decode cX11_init 12 = .ok (.aload_n 0, 1) := by decide +kernel
theorem dX11_init_13 : decode cX11_init 13 = .ok (.bipush 12, 2) := by decide +kernel
theorem dX11_init_15 : decode cX11_init 15 = .ok (.anewarray 17, 3) := by decide +kernel
theorem dX11_init_18 : decode cX11_init 18 = .ok (.putfield 19, 3) := by decide +kernel
theorem dX11_init_21 : decode cX11_init 21 = .ok (.aload_n 0, 1) := by decide +kernel
theorem dX11_init_22 : decode cX11_init 22 = .ok (.new 23, 3) := by decide +kernel
theorem dX11_init_25 : decode cX11_init 25 = .ok (.dup, 1) := by decide +kernel
theorem dX11_init_26 : decode cX11_init 26 = .ok (.invokespecial 25, 3) := by decide +kernel
theorem dX11_init_29 : decode cX11_init 29 = .ok (.putfield 26, 3) := by decide +kernel
theorem dX11_init_32 : decode cX11_init 32 = .ok (.aload_n 0, 1) := by decide +kernel
theorem dX11_init_33 : decode cX11_init 33 = .ok (.new 30, 3) := by decide +kernel
theorem dX11_init_36 : decode cX11_init 36 = .ok (.dup, 1) := by decide +kernel
theorem dX11_init_37 : decode cX11_init 37 = .ok (.invokespecial 32, 3) := by decide +kernel
theorem dX11_init_40 : decode cX11_init 40 = .ok (.putfield 33, 3) := by decide +kernel
theorem dX11_init_43 : decode cX11_init 43 = .ok (.aload_n 0, 1) := by decide +kernel
theorem dX11_init_44 : decode cX11_init 44 = .ok (.new 37, 3) := by decide +kernel
theorem dX11_init_47 : decode cX11_init 47 = .ok (.dup, 1) := by decide +kernel
theorem dX11_init_48 : decode cX11_init 48 = .ok (.invokespecial 39, 3) := by decide +kernel
theorem dX11_init_51 : decode cX11_init 51 = .ok (.putfield 40, 3) := by decide +kernel
theorem dX11_init_54 : decode cX11_init 54 = .ok (.aload_n 0, 1) := by decide +kernel
theorem dX11_init_55 : decode cX11_init 55 = .ok (.iconst 4, 1) := by decide +kernel
theorem dX11_init_56 : decode cX11_init 56 = .ok (.newarray .int, 2) := by decide +kernel
theorem dX11_init_58 : decode cX11_init 58 = .ok (.putfield 44, 3) := by decide +kernel
theorem dX11_init_61 : decode cX11_init 61 = .ok (.aload_n 0, 1) := by decide +kernel
theorem dX11_init_62 : decode cX11_init 62 = .ok (.bipush 48, 2) := by decide +kernel
theorem dX11_init_64 : decode cX11_init 64 = .ok (.newarray .int, 2) := by decide +kernel
theorem dX11_init_66 : decode cX11_init 66 = .ok (.putfield 48, 3) := by decide +kernel
theorem dX11_init_69 : decode cX11_init 69 = .ok (.return_, 1) := by decide +kernel
theorem dX11_net_0 : decode cX11_net 0 = .ok (.aload_n 0, 1) := by decide +kernel
theorem dX11_net_1 : decode cX11_net 1 = .ok (.iconst 0, 1) := by decide +kernel
theorem dX11_net_2 : decode cX11_net 2 = .ok (.putfield 51, 3) := by decide +kernel
theorem dX11_net_5 : decode cX11_net 5 = .ok (.aload_n 0, 1) := by decide +kernel
theorem dX11_net_6 : decode cX11_net 6 = .ok (.iload_n 1, 1) := by decide +kernel
theorem dX11_net_7 : decode cX11_net 7 = .ok (.invokevirtual 55, 3) := by decide +kernel
theorem dX11_net_10 : decode cX11_net 10 = .ok (.ifCond .ne 5, 3) := by decide +kernel
theorem dX11_net_13 : decode cX11_net 13 = .ok (.iconst (-1), 1) := by decide +kernel
theorem dX11_net_14 : decode cX11_net 14 = .ok (.ireturn, 1) := by decide +kernel
theorem dX11_net_15 : decode cX11_net 15 = .ok (.aload_n 0, 1) := by decide +kernel
theorem dX11_net_16 : decode cX11_net 16 = .ok (.iload_n 2, 1) := by decide +kernel
theorem dX11_net_17 : decode cX11_net 17 = .ok (.invokevirtual 59, 3) := by decide +kernel
theorem dX11_net_20 : decode cX11_net 20 = .ok (.ifCond .ne 6, 3) := by decide +kernel
theorem dX11_net_23 : decode cX11_net 23 = .ok (.bipush (-2), 2) := by decide +kernel
theorem dX11_net_25 : decode cX11_net 25 = .ok (.ireturn, 1) := by decide +kernel
theorem dX11_net_26 : decode cX11_net 26 = .ok (.aload_n 0, 1) := by decide +kernel
theorem dX11_net_27 : decode cX11_net 27 = .ok (.getfield 13, 3) := by decide +kernel
theorem dX11_net_30 : decode cX11_net 30 = .ok (.iload_n 1, 1) := by decide +kernel
theorem dX11_net_31 : decode cX11_net 31 = .ok (.aaload, 1) := by decide +kernel
theorem dX11_net_32 : decode cX11_net 32 = .ok (.astore 5, 2) := by decide +kernel
theorem dX11_net_34 : decode cX11_net 34 = .ok (.aload 5, 2) := by decide +kernel
theorem dX11_net_36 : decode cX11_net 36 = .ok (.ifnonnull 9, 3) := by decide +kernel
theorem dX11_net_39 : decode cX11_net 39 = .ok (.aload_n 0, 1) := by decide +kernel
theorem dX11_net_40 : decode cX11_net 40 = .ok (.iconst 1, 1) := by decide +kernel
theorem dX11_net_41 : decode cX11_net 41 = .ok (.invokevirtual 62, 3) := by decide +kernel
theorem dX11_net_44 : decode cX11_net 44 = .ok (.ireturn, 1) := by decide +kernel
theorem dX11_net_45 : decode cX11_net 45 = .ok (.aload 5, 2) := by decide +kernel
theorem dX11_net_47 : decode cX11_net 47 = .ok (.getfield 66, 3) := by decide +kernel
theorem dX11_net_50 : decode cX11_net 50 = .ok (.iload_n 2, 1) := by decide +kernel
theorem dX11_net_51 : decode cX11_net 51 = .ok (.if_icmp .eq 9, 3) := by decide +kernel
theorem dX11_net_54 : decode cX11_net 54 = .ok (.aload_n 0, 1) := by decide +kernel
theorem dX11_net_55 : decode cX11_net 55 = .ok (.iconst 2, 1) := by decide +kernel
theorem dX11_net_56 : decode cX11_net 56 = .ok (.invokevirtual 62, 3) := by decide +kernel
theorem dX11_net_59 : decode cX11_net 59 = .ok (.ireturn, 1) := by decide +kernel
theorem dX11_net_60 : decode cX11_net 60 = .ok (.iload 4, 2) := by decide +kernel
theorem dX11_net_62 : decode cX11_net 62 = .ok (.ifCond .ge 9, 3) := by decide +kernel
theorem dX11_net_65 : decode cX11_net 65 = .ok (.aload_n 0, 1) := by decide +kernel
theorem dX11_net_66 : decode cX11_net 66 = .ok (.iconst 4, 1) := by decide +kernel
theorem dX11_net_67 : decode cX11_net 67 = .ok (.invokevirtual 62, 3) := by decide +kernel
theorem dX11_net_70 : decode cX11_net 70 = .ok (.ireturn, 1) := by decide +kernel
theorem dX11_net_71 : decode cX11_net 71 = .ok (.aload 5, 2) := by decide +kernel
theorem dX11_net_73 : decode cX11_net 73 = .ok (.iload_n 3, 1) := by decide +kernel
theorem dX11_net_74 : decode cX11_net 74 = .ok (.iload 4, 2) := by decide +kernel
theorem dX11_net_76 : decode cX11_net 76 = .ok (.invokevirtual 69, 3) := by decide +kernel
theorem dX11_net_79 : decode cX11_net 79 = .ok (.ifCond .ne 9, 3) := by decide +kernel
theorem dX11_net_82 : decode cX11_net 82 = .ok (.aload_n 0, 1) := by decide +kernel
theorem dX11_net_83 : decode cX11_net 83 = .ok (.iconst 3, 1) := by decide +kernel
theorem dX11_net_84 : decode cX11_net 84 = .ok (.invokevirtual 62, 3) := by decide +kernel
theorem dX11_net_87 : decode cX11_net 87 = .ok (.ireturn, 1) := by decide +kernel
theorem dX11_net_88 : decode cX11_net 88 = .ok (.new 73, 3) := by decide +kernel
theorem dX11_net_91 : decode cX11_net 91 = .ok (.dup, 1) := by decide +kernel
theorem dX11_net_92 : decode cX11_net 92 = .ok (.invokespecial 75, 3) := by decide +kernel
theorem dX11_net_95 : decode cX11_net 95 = .ok (.astore 6, 2) := by decide +kernel
theorem dX11_net_97 : decode cX11_net 97 = .ok (.aload 6, 2) := by decide +kernel
theorem dX11_net_99 : decode cX11_net 99 = .ok (.aload 5, 2) := by decide +kernel
theorem dX11_net_101 : decode cX11_net 101 = .ok (.iload_n 3, 1) := by decide +kernel
theorem dX11_net_102 : decode cX11_net 102 = .ok (.iload 4, 2) := by decide +kernel
theorem dX11_net_104 : decode cX11_net 104 = .ok (.invokevirtual 76, 3) := by decide +kernel
theorem dX11_net_107 : decode cX11_net 107 = .ok (.istore 7, 2) := by decide +kernel
theorem dX11_net_109 : decode cX11_net 109 = .ok (.iload 7, 2) := by decide +kernel
theorem dX11_net_111 : decode cX11_net 111 = .ok (.ifCond .lt 9, 3) := by decide +kernel
theorem dX11_net_114 : decode cX11_net 114 = .ok (.bipush (-100), 2) := by decide +kernel
theorem dX11_net_116 : decode cX11_net 116 = .ok (.iload 7, 2) := by decide +kernel
theorem dX11_net_118 : decode cX11_net 118 = .ok (.isub, 1) := by decide +kernel
theorem dX11_net_119 : decode cX11_net 119 = .ok (.ireturn, 1) := by decide +kernel
theorem dX11_net_120 : decode cX11_net 120 = .ok (.aload_n 0, 1) := by decide +kernel
theorem dX11_net_121 : decode cX11_net 121 = .ok (.aload 6, 2) := by decide +kernel
theorem dX11_net_123 : decode cX11_net 123 = .ok (.getfield 80, 3) := by decide +kernel
theorem dX11_net_126 : decode cX11_net 126 = .ok (.aload 6, 2) := by decide +kernel
theorem dX11_net_128 : decode cX11_net 128 = .ok (.getfield 83, 3) := by decide +kernel
theorem dX11_net_131 : decode cX11_net 131 = .ok (.invokestatic 86, 3) := by decide +kernel
theorem dX11_net_134 : decode cX11_net 134 = .ok (.invokevirtual 92, 3) := by decide +kernel
theorem dX11_net_137 : decode cX11_net 137 = .ok (.aload 6, 2) := by decide +kernel
theorem dX11_net_139 : decode cX11_net 139 = .ok (.getfield 80, 3) := by decide +kernel
theorem dX11_net_142 : decode cX11_net 142 = .ok (.ireturn, 1) := by decide +kernel
theorem dX11_ofPerson_0 : decode cX11_ofPerson 0 = .ok (.aload_n 0, 1) := by decide +kernel
theorem dX11_ofPerson_1 : decode cX11_ofPerson 1 = .ok (.iload_n 1, 1) := by decide +kernel
theorem dX11_ofPerson_2 : decode cX11_ofPerson 2 = .ok (.invokevirtual 96, 3) := by decide +kernel
theorem dX11_ofPerson_5 : decode cX11_ofPerson 5 = .ok (.ifCond .ne 5, 3) := by decide +kernel
theorem dX11_ofPerson_8 : decode cX11_ofPerson 8 = .ok (.iconst (-1), 1) := by decide +kernel
theorem dX11_ofPerson_9 : decode cX11_ofPerson 9 = .ok (.ireturn, 1) := by decide +kernel
theorem dX11_ofPerson_10 : decode cX11_ofPerson 10 = .ok (.iload_n 2, 1) := by decide +kernel
theorem dX11_ofPerson_11 : decode cX11_ofPerson 11 = .ok (.tableswitch 102 0 5 #[37, 46, 55, 64, 76, 89], 37) := by decide +kernel
theorem dX11_ofPerson_48 : decode cX11_ofPerson 48 = .ok (.aload_n 0, 1) := by decide +kernel
theorem dX11_ofPerson_49 : decode cX11_ofPerson 49 = .ok (.getfield 99, 3) := by decide +kernel
theorem dX11_ofPerson_52 : decode cX11_ofPerson 52 = .ok (.iload_n 1, 1) := by decide +kernel
theorem dX11_ofPerson_53 : decode cX11_ofPerson 53 = .ok (.invokestatic 103, 3) := by decide +kernel
theorem dX11_ofPerson_56 : decode cX11_ofPerson 56 = .ok (.ireturn, 1) := by decide +kernel
theorem dX11_ofPerson_57 : decode cX11_ofPerson 57 = .ok (.aload_n 0, 1) := by decide +kernel
theorem dX11_ofPerson_58 : decode cX11_ofPerson 58 = .ok (.getfield 99, 3) := by decide +kernel
theorem dX11_ofPerson_61 : decode cX11_ofPerson 61 = .ok (.iload_n 1, 1) := by decide +kernel
theorem dX11_ofPerson_62 : decode cX11_ofPerson 62 = .ok (.invokestatic 107, 3) := by decide +kernel
theorem dX11_ofPerson_65 : decode cX11_ofPerson 65 = .ok (.ireturn, 1) := by decide +kernel
theorem dX11_ofPerson_66 : decode cX11_ofPerson 66 = .ok (.aload_n 0, 1) := by decide +kernel
theorem dX11_ofPerson_67 : decode cX11_ofPerson 67 = .ok (.getfield 110, 3) := by decide +kernel
theorem dX11_ofPerson_70 : decode cX11_ofPerson 70 = .ok (.iload_n 1, 1) := by decide +kernel
theorem dX11_ofPerson_71 : decode cX11_ofPerson 71 = .ok (.invokestatic 107, 3) := by decide +kernel
theorem dX11_ofPerson_74 : decode cX11_ofPerson 74 = .ok (.ireturn, 1) := by decide +kernel
theorem dX11_ofPerson_75 : decode cX11_ofPerson 75 = .ok (.aload_n 0, 1) := by decide +kernel
theorem dX11_ofPerson_76 : decode cX11_ofPerson 76 = .ok (.getfield 99, 3) := by decide +kernel
theorem dX11_ofPerson_79 : decode cX11_ofPerson 79 = .ok (.iload_n 1, 1) := by decide +kernel
theorem dX11_ofPerson_80 : decode cX11_ofPerson 80 = .ok (.invokestatic 113, 3) := by decide +kernel
theorem dX11_ofPerson_83 : decode cX11_ofPerson 83 = .ok (.invokestatic 117, 3) := by decide +kernel
theorem dX11_ofPerson_86 : decode cX11_ofPerson 86 = .ok (.ireturn, 1) := by decide +kernel
theorem dX11_ofPerson_87 : decode cX11_ofPerson 87 = .ok (.aload_n 0, 1) := by decide +kernel
theorem dX11_ofPerson_88 : decode cX11_ofPerson 88 = .ok (.getfield 99, 3) := by decide +kernel
theorem dX11_ofPerson_91 : decode cX11_ofPerson 91 = .ok (.iconst 2, 1) := by decide +kernel
theorem dX11_ofPerson_92 : decode cX11_ofPerson 92 = .ok (.iload_n 1, 1) := by decide +kernel
theorem dX11_ofPerson_93 : decode cX11_ofPerson 93 = .ok (.invokestatic 121, 3) := by decide +kernel
theorem dX11_ofPerson_96 : decode cX11_ofPerson 96 = .ok (.invokestatic 117, 3) := by decide +kernel
theorem dX11_ofPerson_99 : decode cX11_ofPerson 99 = .ok (.ireturn, 1) := by decide +kernel
theorem dX11_ofPerson_100 : decode cX11_ofPerson 100 = .ok (.aload_n 0, 1) := by decide +kernel
theorem dX11_ofPerson_101 : decode cX11_ofPerson 101 = .ok (.getfield 99, 3) := by decide +kernel
theorem dX11_ofPerson_104 : decode cX11_ofPerson 104 = .ok (.iconst 3, 1) := by decide +kernel
theorem dX11_ofPerson_105 : decode cX11_ofPerson 105 = .ok (.iload_n 1, 1) := by decide +kernel
theorem dX11_ofPerson_106 : decode cX11_ofPerson 106 = .ok (.invokestatic 121, 3) := by decide +kernel
theorem dX11_ofPerson_109 : decode cX11_ofPerson 109 = .ok (.invokestatic 117, 3) := by decide +kernel
theorem dX11_ofPerson_112 : decode cX11_ofPerson 112 = .ok (.ireturn, 1) := by decide +kernel
theorem dX11_ofPerson_113 : decode cX11_ofPerson 113 = .ok (.bipush (-2), 2) := by decide +kernel
theorem dX11_ofPerson_115 : decode cX11_ofPerson 115 = .ok (.ireturn, 1) := by decide +kernel
theorem dX11_call_0 : decode cX11_call 0 = .ok (.aload_n 0, 1) := by decide +kernel
theorem dX11_call_1 : decode cX11_call 1 = .ok (.iload_n 1, 1) := by decide +kernel
theorem dX11_call_2 : decode cX11_call 2 = .ok (.invokevirtual 96, 3) := by decide +kernel
theorem dX11_call_5 : decode cX11_call 5 = .ok (.ifCond .eq 11, 3) := by decide +kernel
theorem dX11_call_8 : decode cX11_call 8 = .ok (.aload_n 0, 1) := by decide +kernel
theorem dX11_call_9 : decode cX11_call 9 = .ok (.iload_n 2, 1) := by decide +kernel
theorem dX11_call_10 : decode cX11_call 10 = .ok (.invokevirtual 96, 3) := by decide +kernel
theorem dX11_call_13 : decode cX11_call 13 = .ok (.ifCond .ne 5, 3) := by decide +kernel
theorem dX11_call_16 : decode cX11_call 16 = .ok (.iconst (-1), 1) := by decide +kernel
theorem dX11_call_17 : decode cX11_call 17 = .ok (.ireturn, 1) := by decide +kernel
theorem dX11_call_18 : decode cX11_call 18 = .ok (.iload_n 1, 1) := by decide +kernel
theorem dX11_call_19 : decode cX11_call 19 = .ok (.iload_n 2, 1) := by decide +kernel
theorem dX11_call_20 : decode cX11_call 20 = .ok (.if_icmp .ne 6, 3) := by decide +kernel
theorem dX11_call_23 : decode cX11_call 23 = .ok (.bipush (-2), 2) := by decide +kernel
theorem dX11_call_25 : decode cX11_call 25 = .ok (.ireturn, 1) := by decide +kernel
theorem dX11_call_26 : decode cX11_call 26 = .ok (.aload_n 0, 1) := by decide +kernel
theorem dX11_call_27 : decode cX11_call 27 = .ok (.getfield 99, 3) := by decide +kernel
theorem dX11_call_30 : decode cX11_call 30 = .ok (.iload_n 1, 1) := by decide +kernel
theorem dX11_call_31 : decode cX11_call 31 = .ok (.invokestatic 107, 3) := by decide +kernel
theorem dX11_call_34 : decode cX11_call 34 = .ok (.iload_n 2, 1) := by decide +kernel
theorem dX11_call_35 : decode cX11_call 35 = .ok (.invokestatic 125, 3) := by decide +kernel
theorem dX11_call_38 : decode cX11_call 38 = .ok (.ifCond .ne 6, 3) := by decide +kernel
theorem dX11_call_41 : decode cX11_call 41 = .ok (.bipush (-3), 2) := by decide +kernel
theorem dX11_call_43 : decode cX11_call 43 = .ok (.ireturn, 1) := by decide +kernel
theorem dX11_call_44 : decode cX11_call 44 = .ok (.aload_n 0, 1) := by decide +kernel
theorem dX11_call_45 : decode cX11_call 45 = .ok (.getfield 128, 3) := by decide +kernel
theorem dX11_call_48 : decode cX11_call 48 = .ok (.bipush 12, 2) := by decide +kernel
theorem dX11_call_50 : decode cX11_call 50 = .ok (.if_icmp .lt 6, 3) := by decide +kernel
theorem dX11_call_53 : decode cX11_call 53 = .ok (.bipush (-4), 2) := by decide +kernel
theorem dX11_call_55 : decode cX11_call 55 = .ok (.ireturn, 1) := by decide +kernel
theorem dX11_call_56 : decode cX11_call 56 = .ok (.aload_n 0, 1) := by decide +kernel
theorem dX11_call_57 : decode cX11_call 57 = .ok (.getfield 128, 3) := by decide +kernel
theorem dX11_call_60 : decode cX11_call 60 = .ok (.istore_n 3, 1) := by decide +kernel
theorem dX11_call_61 : decode cX11_call 61 = .ok (.aload_n 0, 1) := by decide +kernel
theorem dX11_call_62 : decode cX11_call 62 = .ok (.getfield 19, 3) := by decide +kernel
theorem dX11_call_65 : decode cX11_call 65 = .ok (.iload_n 3, 1) := by decide +kernel
theorem dX11_call_66 : decode cX11_call 66 = .ok (.aload_n 0, 1) := by decide +kernel
theorem dX11_call_67 : decode cX11_call 67 = .ok (.iload_n 3, 1) := by decide +kernel
theorem dX11_call_68 : decode cX11_call 68 = .ok (.iload_n 1, 1) := by decide +kernel
theorem dX11_call_69 : decode cX11_call 69 = .ok (.iload_n 2, 1) := by decide +kernel
theorem dX11_call_70 : decode cX11_call 70 = .ok (.invokevirtual 131, 3) := by decide +kernel
theorem dX11_call_73 : decode cX11_call 73 = .ok (.aastore, 1) := by decide +kernel
theorem dX11_call_74 : decode cX11_call 74 = .ok (.aload_n 0, 1) := by decide +kernel
theorem dX11_call_75 : decode cX11_call 75 = .ok (.iload_n 3, 1) := by decide +kernel
theorem dX11_call_76 : decode cX11_call 76 = .ok (.iconst 1, 1) := by decide +kernel
theorem dX11_call_77 : decode cX11_call 77 = .ok (.iadd, 1) := by decide +kernel
theorem dX11_call_78 : decode cX11_call 78 = .ok (.putfield 128, 3) := by decide +kernel
theorem dX11_call_81 : decode cX11_call 81 = .ok (.aload_n 0, 1) := by decide +kernel
theorem dX11_call_82 : decode cX11_call 82 = .ok (.aload_n 0, 1) := by decide +kernel
theorem dX11_call_83 : decode cX11_call 83 = .ok (.getfield 99, 3) := by decide +kernel
theorem dX11_call_86 : decode cX11_call 86 = .ok (.iload_n 1, 1) := by decide +kernel
theorem dX11_call_87 : decode cX11_call 87 = .ok (.iload_n 2, 1) := by decide +kernel
theorem dX11_call_88 : decode cX11_call 88 = .ok (.invokestatic 135, 3) := by decide +kernel
theorem dX11_call_91 : decode cX11_call 91 = .ok (.invokevirtual 139, 3) := by decide +kernel
theorem dX11_call_94 : decode cX11_call 94 = .ok (.iload_n 3, 1) := by decide +kernel
theorem dX11_call_95 : decode cX11_call 95 = .ok (.ireturn, 1) := by decide +kernel
theorem dX11_ofCall_0 : decode cX11_ofCall 0 = .ok (.aload_n 0, 1) := by decide +kernel
theorem dX11_ofCall_1 : decode cX11_ofCall 1 = .ok (.iload_n 1, 1) := by decide +kernel
theorem dX11_ofCall_2 : decode cX11_ofCall 2 = .ok (.invokevirtual 142, 3) := by decide +kernel
theorem dX11_ofCall_5 : decode cX11_ofCall 5 = .ok (.astore_n 3, 1) := by decide +kernel
theorem dX11_ofCall_6 : decode cX11_ofCall 6 = .ok (.aload_n 3, 1) := by decide +kernel
theorem dX11_ofCall_7 : decode cX11_ofCall 7 = .ok (.ifnonnull 5, 3) := by decide +kernel
theorem dX11_ofCall_10 : decode cX11_ofCall 10 = .ok (.iconst (-1), 1) := by decide +kernel
theorem dX11_ofCall_11 : decode cX11_ofCall 11 = .ok (.ireturn, 1) := by decide +kernel
theorem dX11_ofCall_12 : decode cX11_ofCall 12 = .ok (.iload_n 2, 1) := by decide +kernel
theorem dX11_ofCall_13 : decode cX11_ofCall 13 = .ok (.tableswitch 68 0 4 #[35, 40, 45, 50, 59], 35) := by decide +kernel
theorem dX11_ofCall_48 : decode cX11_ofCall 48 = .ok (.aload_n 3, 1) := by decide +kernel
theorem dX11_ofCall_49 : decode cX11_ofCall 49 = .ok (.invokevirtual 146, 3) := by decide +kernel
theorem dX11_ofCall_52 : decode cX11_ofCall 52 = .ok (.ireturn, 1) := by decide +kernel
theorem dX11_ofCall_53 : decode cX11_ofCall 53 = .ok (.aload_n 3, 1) := by decide +kernel
theorem dX11_ofCall_54 : decode cX11_ofCall 54 = .ok (.getfield 150, 3) := by decide +kernel
theorem dX11_ofCall_57 : decode cX11_ofCall 57 = .ok (.ireturn, 1) := by decide +kernel
theorem dX11_ofCall_58 : decode cX11_ofCall 58 = .ok (.aload_n 3, 1) := by decide +kernel
theorem dX11_ofCall_59 : decode cX11_ofCall 59 = .ok (.getfield 153, 3) := by decide +kernel
theorem dX11_ofCall_62 : decode cX11_ofCall 62 = .ok (.ireturn, 1) := by decide +kernel
theorem dX11_ofCall_63 : decode cX11_ofCall 63 = .ok (.aload_n 3, 1) := by decide +kernel
theorem dX11_ofCall_64 : decode cX11_ofCall 64 = .ok (.aload_n 3, 1) := by decide +kernel
theorem dX11_ofCall_65 : decode cX11_ofCall 65 = .ok (.getfield 150, 3) := by decide +kernel
theorem dX11_ofCall_68 : decode cX11_ofCall 68 = .ok (.invokevirtual 156, 3) := by decide +kernel
theorem dX11_ofCall_71 : decode cX11_ofCall 71 = .ok (.ireturn, 1) := by decide +kernel
theorem dX11_ofCall_72 : decode cX11_ofCall 72 = .ok (.aload_n 3, 1) := by decide +kernel
theorem dX11_ofCall_73 : decode cX11_ofCall 73 = .ok (.aload_n 3, 1) := by decide +kernel
theorem dX11_ofCall_74 : decode cX11_ofCall 74 = .ok (.getfield 153, 3) := by decide +kernel
theorem dX11_ofCall_77 : decode cX11_ofCall 77 = .ok (.invokevirtual 156, 3) := by decide +kernel
theorem dX11_ofCall_80 : decode cX11_ofCall 80 = .ok (.ireturn, 1) := by decide +kernel
theorem dX11_ofCall_81 : decode cX11_ofCall 81 = .ok (.bipush (-2), 2) := by decide +kernel
theorem dX11_ofCall_83 : decode cX11_ofCall 83 = .ok (.ireturn, 1) := by decide +kernel
theorem dX11_back_0 : decode cX11_back 0 = .ok (.aload_n 0, 1) := by decide +kernel
theorem dX11_back_1 : decode cX11_back 1 = .ok (.aload_n 0, 1) := by decide +kernel
theorem dX11_back_2 : decode cX11_back 2 = .ok (.getfield 128, 3) := by decide +kernel
theorem dX11_back_5 : decode cX11_back 5 = .ok (.iconst 1, 1) := by decide +kernel
theorem dX11_back_6 : decode cX11_back 6 = .ok (.isub, 1) := by decide +kernel
theorem dX11_back_7 : decode cX11_back 7 = .ok (.invokevirtual 142, 3) := by decide +kernel
theorem dX11_back_10 : decode cX11_back 10 = .ok (.astore_n 1, 1) := by decide +kernel
theorem dX11_back_11 : decode cX11_back 11 = .ok (.aload_n 1, 1) := by decide +kernel
theorem dX11_back_12 : decode cX11_back 12 = .ok (.ifnonnull 6, 3) := by decide +kernel
theorem dX11_back_15 : decode cX11_back 15 = .ok (.bipush (-3), 2) := by decide +kernel
theorem dX11_back_17 : decode cX11_back 17 = .ok (.ireturn, 1) := by decide +kernel
theorem dX11_back_18 : decode cX11_back 18 = .ok (.aload_n 0, 1) := by decide +kernel
theorem dX11_back_19 : decode cX11_back 19 = .ok (.aload_n 1, 1) := by decide +kernel
theorem dX11_back_20 : decode cX11_back 20 = .ok (.getfield 159, 3) := by decide +kernel
theorem dX11_back_23 : decode cX11_back 23 = .ok (.putfield 128, 3) := by decide +kernel
theorem dX11_back_26 : decode cX11_back 26 = .ok (.aload_n 0, 1) := by decide +kernel
theorem dX11_back_27 : decode cX11_back 27 = .ok (.aload_n 1, 1) := by decide +kernel
theorem dX11_back_28 : decode cX11_back 28 = .ok (.getfield 162, 3) := by decide +kernel
theorem dX11_back_31 : decode cX11_back 31 = .ok (.invokevirtual 139, 3) := by decide +kernel
theorem dX11_back_34 : decode cX11_back 34 = .ok (.aload_n 0, 1) := by decide +kernel
theorem dX11_back_35 : decode cX11_back 35 = .ok (.getfield 128, 3) := by decide +kernel
theorem dX11_back_38 : decode cX11_back 38 = .ok (.ireturn, 1) := by decide +kernel
theorem dX11_may_0 : decode cX11_may 0 = .ok (.aload_n 0, 1) := by decide +kernel
theorem dX11_may_1 : decode cX11_may 1 = .ok (.iload_n 1, 1) := by decide +kernel
theorem dX11_may_2 : decode cX11_may 2 = .ok (.invokevirtual 165, 3) := by decide +kernel
theorem dX11_may_5 : decode cX11_may 5 = .ok (.ifCond .eq 11, 3) := by decide +kernel
theorem dX11_may_8 : decode cX11_may 8 = .ok (.aload_n 0, 1) := by decide +kernel
theorem dX11_may_9 : decode cX11_may 9 = .ok (.iload_n 2, 1) := by decide +kernel
theorem dX11_may_10 : decode cX11_may 10 = .ok (.invokevirtual 96, 3) := by decide +kernel
theorem dX11_may_13 : decode cX11_may 13 = .ok (.ifCond .ne 5, 3) := by decide +kernel
theorem dX11_may_16 : decode cX11_may 16 = .ok (.iconst (-1), 1) := by decide +kernel
theorem dX11_may_17 : decode cX11_may 17 = .ok (.ireturn, 1) := by decide +kernel
theorem dX11_may_18 : decode cX11_may 18 = .ok (.aload_n 0, 1) := by decide +kernel
theorem dX11_may_19 : decode cX11_may 19 = .ok (.getfield 99, 3) := by decide +kernel
theorem dX11_may_22 : decode cX11_may 22 = .ok (.iload_n 1, 1) := by decide +kernel
theorem dX11_may_23 : decode cX11_may 23 = .ok (.iload_n 2, 1) := by decide +kernel
theorem dX11_may_24 : decode cX11_may 24 = .ok (.invokestatic 168, 3) := by decide +kernel
theorem dX11_may_27 : decode cX11_may 27 = .ok (.ireturn, 1) := by decide +kernel
theorem dX11_runs_0 : decode cX11_runs 0 = .ok (.aload_n 0, 1) := by decide +kernel
theorem dX11_runs_1 : decode cX11_runs 1 = .ok (.iload_n 1, 1) := by decide +kernel
theorem dX11_runs_2 : decode cX11_runs 2 = .ok (.invokevirtual 165, 3) := by decide +kernel
theorem dX11_runs_5 : decode cX11_runs 5 = .ok (.ifCond .eq 18, 3) := by decide +kernel
theorem dX11_runs_8 : decode cX11_runs 8 = .ok (.aload_n 0, 1) := by decide +kernel
theorem dX11_runs_9 : decode cX11_runs 9 = .ok (.iload_n 2, 1) := by decide +kernel
theorem dX11_runs_10 : decode cX11_runs 10 = .ok (.invokevirtual 172, 3) := by decide +kernel
theorem dX11_runs_13 : decode cX11_runs 13 = .ok (.ifCond .eq 10, 3) := by decide +kernel
theorem dX11_runs_16 : decode cX11_runs 16 = .ok (.aload_n 0, 1) := by decide +kernel
theorem dX11_runs_17 : decode cX11_runs 17 = .ok (.invokevirtual 175, 3) := by decide +kernel
theorem dX11_runs_20 : decode cX11_runs 20 = .ok (.ifCond .eq 7, 3) := by decide +kernel
theorem dX11_runs_23 : decode cX11_runs 23 = .ok (.ldc2_w 179, 3) := by decide +kernel
theorem dX11_runs_26 : decode cX11_runs 26 = .ok (.lreturn, 1) := by decide +kernel
theorem dX11_runs_27 : decode cX11_runs 27 = .ok (.iload_n 2, 1) := by decide +kernel
theorem dX11_runs_28 : decode cX11_runs 28 = .ok (.ifCond .ne 18, 3) := by decide +kernel
theorem dX11_runs_31 : decode cX11_runs 31 = .ok (.aload_n 0, 1) := by decide +kernel
theorem dX11_runs_32 : decode cX11_runs 32 = .ok (.getfield 33, 3) := by decide +kernel
theorem dX11_runs_35 : decode cX11_runs 35 = .ok (.aload_n 0, 1) := by decide +kernel
theorem dX11_runs_36 : decode cX11_runs 36 = .ok (.getfield 99, 3) := by decide +kernel
theorem dX11_runs_39 : decode cX11_runs 39 = .ok (.iload_n 1, 1) := by decide +kernel
theorem dX11_runs_40 : decode cX11_runs 40 = .ok (.invokevirtual 181, 3) := by decide +kernel
theorem dX11_runs_43 : decode cX11_runs 43 = .ok (.goto 15, 3) := by decide +kernel
theorem dX11_runs_46 : decode cX11_runs 46 = .ok (.aload_n 0, 1) := by decide +kernel
theorem dX11_runs_47 : decode cX11_runs 47 = .ok (.getfield 33, 3) := by decide +kernel
theorem dX11_runs_50 : decode cX11_runs 50 = .ok (.aload_n 0, 1) := by decide +kernel
theorem dX11_runs_51 : decode cX11_runs 51 = .ok (.getfield 99, 3) := by decide +kernel
theorem dX11_runs_54 : decode cX11_runs 54 = .ok (.iload_n 1, 1) := by decide +kernel
theorem dX11_runs_55 : decode cX11_runs 55 = .ok (.invokevirtual 185, 3) := by decide +kernel
theorem dX11_runs_58 : decode cX11_runs 58 = .ok (.lreturn, 1) := by decide +kernel
theorem dX11_verdict_0 : decode cX11_verdict 0 = .ok (.aload_n 0, 1) := by decide +kernel
theorem dX11_verdict_1 : decode cX11_verdict 1 = .ok (.iload_n 1, 1) := by decide +kernel
theorem dX11_verdict_2 : decode cX11_verdict 2 = .ok (.invokevirtual 165, 3) := by decide +kernel
theorem dX11_verdict_5 : decode cX11_verdict 5 = .ok (.ifCond .ne 5, 3) := by decide +kernel
theorem dX11_verdict_8 : decode cX11_verdict 8 = .ok (.iconst (-1), 1) := by decide +kernel
theorem dX11_verdict_9 : decode cX11_verdict 9 = .ok (.ireturn, 1) := by decide +kernel
theorem dX11_verdict_10 : decode cX11_verdict 10 = .ok (.aload_n 0, 1) := by decide +kernel
theorem dX11_verdict_11 : decode cX11_verdict 11 = .ok (.invokevirtual 175, 3) := by decide +kernel
theorem dX11_verdict_14 : decode cX11_verdict 14 = .ok (.ifCond .eq 6, 3) := by decide +kernel
theorem dX11_verdict_17 : decode cX11_verdict 17 = .ok (.bipush (-3), 2) := by decide +kernel
theorem dX11_verdict_19 : decode cX11_verdict 19 = .ok (.ireturn, 1) := by decide +kernel
theorem dX11_verdict_20 : decode cX11_verdict 20 = .ok (.aload_n 0, 1) := by decide +kernel
theorem dX11_verdict_21 : decode cX11_verdict 21 = .ok (.getfield 33, 3) := by decide +kernel
theorem dX11_verdict_24 : decode cX11_verdict 24 = .ok (.aload_n 0, 1) := by decide +kernel
theorem dX11_verdict_25 : decode cX11_verdict 25 = .ok (.getfield 99, 3) := by decide +kernel
theorem dX11_verdict_28 : decode cX11_verdict 28 = .ok (.iload_n 1, 1) := by decide +kernel
theorem dX11_verdict_29 : decode cX11_verdict 29 = .ok (.invokevirtual 188, 3) := by decide +kernel
theorem dX11_verdict_32 : decode cX11_verdict 32 = .ok (.ireturn, 1) := by decide +kernel
theorem dX11_calls_0 : decode cX11_calls 0 = .ok (.aload_n 0, 1) := by decide +kernel
theorem dX11_calls_1 : decode cX11_calls 1 = .ok (.iload_n 1, 1) := by decide +kernel
theorem dX11_calls_2 : decode cX11_calls 2 = .ok (.invokevirtual 165, 3) := by decide +kernel
theorem dX11_calls_5 : decode cX11_calls 5 = .ok (.ifCond .ne 5, 3) := by decide +kernel
theorem dX11_calls_8 : decode cX11_calls 8 = .ok (.iconst (-1), 1) := by decide +kernel
theorem dX11_calls_9 : decode cX11_calls 9 = .ok (.ireturn, 1) := by decide +kernel
theorem dX11_calls_10 : decode cX11_calls 10 = .ok (.aload_n 0, 1) := by decide +kernel
theorem dX11_calls_11 : decode cX11_calls 11 = .ok (.iload_n 2, 1) := by decide +kernel
theorem dX11_calls_12 : decode cX11_calls 12 = .ok (.invokevirtual 172, 3) := by decide +kernel
theorem dX11_calls_15 : decode cX11_calls 15 = .ok (.ifCond .ne 6, 3) := by decide +kernel
theorem dX11_calls_18 : decode cX11_calls 18 = .ok (.bipush (-2), 2) := by decide +kernel
theorem dX11_calls_20 : decode cX11_calls 20 = .ok (.ireturn, 1) := by decide +kernel
theorem dX11_calls_21 : decode cX11_calls 21 = .ok (.aload_n 0, 1) := by decide +kernel
theorem dX11_calls_22 : decode cX11_calls 22 = .ok (.invokevirtual 175, 3) := by decide +kernel
theorem dX11_calls_25 : decode cX11_calls 25 = .ok (.ifCond .eq 6, 3) := by decide +kernel
theorem dX11_calls_28 : decode cX11_calls 28 = .ok (.bipush (-3), 2) := by decide +kernel
theorem dX11_calls_30 : decode cX11_calls 30 = .ok (.ireturn, 1) := by decide +kernel
theorem dX11_calls_31 : decode cX11_calls 31 = .ok (.iload_n 2, 1) := by decide +kernel
theorem dX11_calls_32 : decode cX11_calls 32 = .ok (.ifCond .ne 18, 3) := by decide +kernel
theorem dX11_calls_35 : decode cX11_calls 35 = .ok (.aload_n 0, 1) := by decide +kernel
theorem dX11_calls_36 : decode cX11_calls 36 = .ok (.getfield 33, 3) := by decide +kernel
theorem dX11_calls_39 : decode cX11_calls 39 = .ok (.aload_n 0, 1) := by decide +kernel
theorem dX11_calls_40 : decode cX11_calls 40 = .ok (.getfield 99, 3) := by decide +kernel
theorem dX11_calls_43 : decode cX11_calls 43 = .ok (.iload_n 1, 1) := by decide +kernel
theorem dX11_calls_44 : decode cX11_calls 44 = .ok (.invokevirtual 191, 3) := by decide +kernel
theorem dX11_calls_47 : decode cX11_calls 47 = .ok (.goto 15, 3) := by decide +kernel
theorem dX11_calls_50 : decode cX11_calls 50 = .ok (.aload_n 0, 1) := by decide +kernel
theorem dX11_calls_51 : decode cX11_calls 51 = .ok (.getfield 33, 3) := by decide +kernel
theorem dX11_calls_54 : decode cX11_calls 54 = .ok (.aload_n 0, 1) := by decide +kernel
theorem dX11_calls_55 : decode cX11_calls 55 = .ok (.getfield 99, 3) := by decide +kernel
theorem dX11_calls_58 : decode cX11_calls 58 = .ok (.iload_n 1, 1) := by decide +kernel
theorem dX11_calls_59 : decode cX11_calls 59 = .ok (.invokevirtual 194, 3) := by decide +kernel
theorem dX11_calls_62 : decode cX11_calls 62 = .ok (.ireturn, 1) := by decide +kernel
theorem dX11_keeps_0 : decode cX11_keeps 0 = .ok (.aload_n 0, 1) := by decide +kernel
theorem dX11_keeps_1 : decode cX11_keeps 1 = .ok (.iload_n 1, 1) := by decide +kernel
theorem dX11_keeps_2 : decode cX11_keeps 2 = .ok (.invokevirtual 165, 3) := by decide +kernel
theorem dX11_keeps_5 : decode cX11_keeps 5 = .ok (.ifCond .eq 19, 3) := by decide +kernel
theorem dX11_keeps_8 : decode cX11_keeps 8 = .ok (.aload_n 0, 1) := by decide +kernel
theorem dX11_keeps_9 : decode cX11_keeps 9 = .ok (.iload_n 2, 1) := by decide +kernel
theorem dX11_keeps_10 : decode cX11_keeps 10 = .ok (.invokevirtual 96, 3) := by decide +kernel
theorem dX11_keeps_13 : decode cX11_keeps 13 = .ok (.ifCond .eq 11, 3) := by decide +kernel
theorem dX11_keeps_16 : decode cX11_keeps 16 = .ok (.aload_n 0, 1) := by decide +kernel
theorem dX11_keeps_17 : decode cX11_keeps 17 = .ok (.iload_n 3, 1) := by decide +kernel
theorem dX11_keeps_18 : decode cX11_keeps 18 = .ok (.invokevirtual 96, 3) := by decide +kernel
theorem dX11_keeps_21 : decode cX11_keeps 21 = .ok (.ifCond .ne 5, 3) := by decide +kernel
theorem dX11_keeps_24 : decode cX11_keeps 24 = .ok (.iconst (-1), 1) := by decide +kernel
theorem dX11_keeps_25 : decode cX11_keeps 25 = .ok (.ireturn, 1) := by decide +kernel
theorem dX11_keeps_26 : decode cX11_keeps 26 = .ok (.iload_n 2, 1) := by decide +kernel
theorem dX11_keeps_27 : decode cX11_keeps 27 = .ok (.iload_n 3, 1) := by decide +kernel
theorem dX11_keeps_28 : decode cX11_keeps 28 = .ok (.if_icmp .ne 6, 3) := by decide +kernel
theorem dX11_keeps_31 : decode cX11_keeps 31 = .ok (.bipush (-2), 2) := by decide +kernel
theorem dX11_keeps_33 : decode cX11_keeps 33 = .ok (.ireturn, 1) := by decide +kernel
theorem dX11_keeps_34 : decode cX11_keeps 34 = .ok (.aload_n 0, 1) := by decide +kernel
theorem dX11_keeps_35 : decode cX11_keeps 35 = .ok (.getfield 99, 3) := by decide +kernel
theorem dX11_keeps_38 : decode cX11_keeps 38 = .ok (.iload_n 1, 1) := by decide +kernel
theorem dX11_keeps_39 : decode cX11_keeps 39 = .ok (.iload_n 2, 1) := by decide +kernel
theorem dX11_keeps_40 : decode cX11_keeps 40 = .ok (.invokestatic 168, 3) := by decide +kernel
theorem dX11_keeps_43 : decode cX11_keeps 43 = .ok (.iload_n 3, 1) := by decide +kernel
theorem dX11_keeps_44 : decode cX11_keeps 44 = .ok (.invokestatic 125, 3) := by decide +kernel
theorem dX11_keeps_47 : decode cX11_keeps 47 = .ok (.ifCond .ne 6, 3) := by decide +kernel
theorem dX11_keeps_50 : decode cX11_keeps 50 = .ok (.bipush (-3), 2) := by decide +kernel
theorem dX11_keeps_52 : decode cX11_keeps 52 = .ok (.ireturn, 1) := by decide +kernel
theorem dX11_keeps_53 : decode cX11_keeps 53 = .ok (.aload_n 0, 1) := by decide +kernel
theorem dX11_keeps_54 : decode cX11_keeps 54 = .ok (.getfield 33, 3) := by decide +kernel
theorem dX11_keeps_57 : decode cX11_keeps 57 = .ok (.aload_n 0, 1) := by decide +kernel
theorem dX11_keeps_58 : decode cX11_keeps 58 = .ok (.getfield 99, 3) := by decide +kernel
theorem dX11_keeps_61 : decode cX11_keeps 61 = .ok (.iload_n 2, 1) := by decide +kernel
theorem dX11_keeps_62 : decode cX11_keeps 62 = .ok (.iload_n 3, 1) := by decide +kernel
theorem dX11_keeps_63 : decode cX11_keeps 63 = .ok (.invokestatic 135, 3) := by decide +kernel
theorem dX11_keeps_66 : decode cX11_keeps 66 = .ok (.iload_n 1, 1) := by decide +kernel
theorem dX11_keeps_67 : decode cX11_keeps 67 = .ok (.invokevirtual 188, 3) := by decide +kernel
theorem dX11_keeps_70 : decode cX11_keeps 70 = .ok (.ireturn, 1) := by decide +kernel
theorem dX11_best_0 : decode cX11_best 0 = .ok (.aload_n 0, 1) := by decide +kernel
theorem dX11_best_1 : decode cX11_best 1 = .ok (.iload_n 1, 1) := by decide +kernel
theorem dX11_best_2 : decode cX11_best 2 = .ok (.invokevirtual 165, 3) := by decide +kernel
theorem dX11_best_5 : decode cX11_best 5 = .ok (.ifCond .ne 5, 3) := by decide +kernel
theorem dX11_best_8 : decode cX11_best 8 = .ok (.iconst (-1), 1) := by decide +kernel
theorem dX11_best_9 : decode cX11_best 9 = .ok (.ireturn, 1) := by decide +kernel
theorem dX11_best_10 : decode cX11_best 10 = .ok (.aload_n 0, 1) := by decide +kernel
theorem dX11_best_11 : decode cX11_best 11 = .ok (.iload_n 2, 1) := by decide +kernel
theorem dX11_best_12 : decode cX11_best 12 = .ok (.invokevirtual 172, 3) := by decide +kernel
theorem dX11_best_15 : decode cX11_best 15 = .ok (.ifCond .ne 6, 3) := by decide +kernel
theorem dX11_best_18 : decode cX11_best 18 = .ok (.bipush (-2), 2) := by decide +kernel
theorem dX11_best_20 : decode cX11_best 20 = .ok (.ireturn, 1) := by decide +kernel
theorem dX11_best_21 : decode cX11_best 21 = .ok (.aload_n 0, 1) := by decide +kernel
theorem dX11_best_22 : decode cX11_best 22 = .ok (.invokevirtual 175, 3) := by decide +kernel
theorem dX11_best_25 : decode cX11_best 25 = .ok (.ifCond .eq 6, 3) := by decide +kernel
theorem dX11_best_28 : decode cX11_best 28 = .ok (.bipush (-3), 2) := by decide +kernel
theorem dX11_best_30 : decode cX11_best 30 = .ok (.ireturn, 1) := by decide +kernel
theorem dX11_best_31 : decode cX11_best 31 = .ok (.aload_n 0, 1) := by decide +kernel
theorem dX11_best_32 : decode cX11_best 32 = .ok (.getfield 33, 3) := by decide +kernel
theorem dX11_best_35 : decode cX11_best 35 = .ok (.aload_n 0, 1) := by decide +kernel
theorem dX11_best_36 : decode cX11_best 36 = .ok (.getfield 99, 3) := by decide +kernel
theorem dX11_best_39 : decode cX11_best 39 = .ok (.iload_n 1, 1) := by decide +kernel
theorem dX11_best_40 : decode cX11_best 40 = .ok (.invokevirtual 197, 3) := by decide +kernel
theorem dX11_best_43 : decode cX11_best 43 = .ok (.istore_n 3, 1) := by decide +kernel
theorem dX11_best_44 : decode cX11_best 44 = .ok (.iload_n 3, 1) := by decide +kernel
theorem dX11_best_45 : decode cX11_best 45 = .ok (.bipush (-9), 2) := by decide +kernel
theorem dX11_best_47 : decode cX11_best 47 = .ok (.if_icmp .ne 6, 3) := by decide +kernel
theorem dX11_best_50 : decode cX11_best 50 = .ok (.bipush (-9), 2) := by decide +kernel
theorem dX11_best_52 : decode cX11_best 52 = .ok (.ireturn, 1) := by decide +kernel
theorem dX11_best_53 : decode cX11_best 53 = .ok (.iload_n 2, 1) := by decide +kernel
theorem dX11_best_54 : decode cX11_best 54 = .ok (.ifCond .ne 10, 3) := by decide +kernel
theorem dX11_best_57 : decode cX11_best 57 = .ok (.iload_n 3, 1) := by decide +kernel
theorem dX11_best_58 : decode cX11_best 58 = .ok (.invokestatic 200, 3) := by decide +kernel
theorem dX11_best_61 : decode cX11_best 61 = .ok (.goto 7, 3) := by decide +kernel
theorem dX11_best_64 : decode cX11_best 64 = .ok (.iload_n 3, 1) := by decide +kernel
theorem dX11_best_65 : decode cX11_best 65 = .ok (.invokestatic 203, 3) := by decide +kernel
theorem dX11_best_68 : decode cX11_best 68 = .ok (.ireturn, 1) := by decide +kernel
theorem dX11_alike_0 : decode cX11_alike 0 = .ok (.aload_n 0, 1) := by decide +kernel
theorem dX11_alike_1 : decode cX11_alike 1 = .ok (.iload_n 1, 1) := by decide +kernel
theorem dX11_alike_2 : decode cX11_alike 2 = .ok (.invokevirtual 96, 3) := by decide +kernel
theorem dX11_alike_5 : decode cX11_alike 5 = .ok (.ifCond .ne 5, 3) := by decide +kernel
theorem dX11_alike_8 : decode cX11_alike 8 = .ok (.iconst (-1), 1) := by decide +kernel
theorem dX11_alike_9 : decode cX11_alike 9 = .ok (.ireturn, 1) := by decide +kernel
theorem dX11_alike_10 : decode cX11_alike 10 = .ok (.aload_n 0, 1) := by decide +kernel
theorem dX11_alike_11 : decode cX11_alike 11 = .ok (.getfield 128, 3) := by decide +kernel
theorem dX11_alike_14 : decode cX11_alike 14 = .ok (.iconst 4, 1) := by decide +kernel
theorem dX11_alike_15 : decode cX11_alike 15 = .ok (.if_icmp .le 6, 3) := by decide +kernel
theorem dX11_alike_18 : decode cX11_alike 18 = .ok (.bipush (-3), 2) := by decide +kernel
theorem dX11_alike_20 : decode cX11_alike 20 = .ok (.ireturn, 1) := by decide +kernel
theorem dX11_alike_21 : decode cX11_alike 21 = .ok (.aload_n 0, 1) := by decide +kernel
theorem dX11_alike_22 : decode cX11_alike 22 = .ok (.getfield 40, 3) := by decide +kernel
theorem dX11_alike_25 : decode cX11_alike 25 = .ok (.iload_n 1, 1) := by decide +kernel
theorem dX11_alike_26 : decode cX11_alike 26 = .ok (.aload_n 0, 1) := by decide +kernel
theorem dX11_alike_27 : decode cX11_alike 27 = .ok (.getfield 110, 3) := by decide +kernel
theorem dX11_alike_30 : decode cX11_alike 30 = .ok (.aload_n 0, 1) := by decide +kernel
theorem dX11_alike_31 : decode cX11_alike 31 = .ok (.getfield 19, 3) := by decide +kernel
theorem dX11_alike_34 : decode cX11_alike 34 = .ok (.aload_n 0, 1) := by decide +kernel
theorem dX11_alike_35 : decode cX11_alike 35 = .ok (.getfield 128, 3) := by decide +kernel
theorem dX11_alike_38 : decode cX11_alike 38 = .ok (.invokevirtual 206, 3) := by decide +kernel
theorem dX11_alike_41 : decode cX11_alike 41 = .ok (.ireturn, 1) := by decide +kernel
theorem dX11_sure_0 : decode cX11_sure 0 = .ok (.aload_n 0, 1) := by decide +kernel
theorem dX11_sure_1 : decode cX11_sure 1 = .ok (.iload_n 1, 1) := by decide +kernel
theorem dX11_sure_2 : decode cX11_sure 2 = .ok (.invokevirtual 96, 3) := by decide +kernel
theorem dX11_sure_5 : decode cX11_sure 5 = .ok (.ifCond .eq 19, 3) := by decide +kernel
theorem dX11_sure_8 : decode cX11_sure 8 = .ok (.aload_n 0, 1) := by decide +kernel
theorem dX11_sure_9 : decode cX11_sure 9 = .ok (.iload_n 2, 1) := by decide +kernel
theorem dX11_sure_10 : decode cX11_sure 10 = .ok (.invokevirtual 96, 3) := by decide +kernel
theorem dX11_sure_13 : decode cX11_sure 13 = .ok (.ifCond .eq 11, 3) := by decide +kernel
theorem dX11_sure_16 : decode cX11_sure 16 = .ok (.aload_n 0, 1) := by decide +kernel
theorem dX11_sure_17 : decode cX11_sure 17 = .ok (.iload_n 3, 1) := by decide +kernel
theorem dX11_sure_18 : decode cX11_sure 18 = .ok (.invokevirtual 96, 3) := by decide +kernel
theorem dX11_sure_21 : decode cX11_sure 21 = .ok (.ifCond .ne 5, 3) := by decide +kernel
theorem dX11_sure_24 : decode cX11_sure 24 = .ok (.iconst (-1), 1) := by decide +kernel
theorem dX11_sure_25 : decode cX11_sure 25 = .ok (.ireturn, 1) := by decide +kernel
theorem dX11_sure_26 : decode cX11_sure 26 = .ok (.aload_n 0, 1) := by decide +kernel
theorem dX11_sure_27 : decode cX11_sure 27 = .ok (.getfield 128, 3) := by decide +kernel
theorem dX11_sure_30 : decode cX11_sure 30 = .ok (.iconst 4, 1) := by decide +kernel
theorem dX11_sure_31 : decode cX11_sure 31 = .ok (.if_icmp .le 6, 3) := by decide +kernel
theorem dX11_sure_34 : decode cX11_sure 34 = .ok (.bipush (-3), 2) := by decide +kernel
theorem dX11_sure_36 : decode cX11_sure 36 = .ok (.ireturn, 1) := by decide +kernel
theorem dX11_sure_37 : decode cX11_sure 37 = .ok (.aload_n 0, 1) := by decide +kernel
theorem dX11_sure_38 : decode cX11_sure 38 = .ok (.iload_n 1, 1) := by decide +kernel
theorem dX11_sure_39 : decode cX11_sure 39 = .ok (.iload_n 2, 1) := by decide +kernel
theorem dX11_sure_40 : decode cX11_sure 40 = .ok (.invokevirtual 210, 3) := by decide +kernel
theorem dX11_sure_43 : decode cX11_sure 43 = .ok (.iload_n 3, 1) := by decide +kernel
theorem dX11_sure_44 : decode cX11_sure 44 = .ok (.invokestatic 125, 3) := by decide +kernel
theorem dX11_sure_47 : decode cX11_sure 47 = .ok (.invokestatic 117, 3) := by decide +kernel
theorem dX11_sure_50 : decode cX11_sure 50 = .ok (.ireturn, 1) := by decide +kernel
theorem dX11_known_0 : decode cX11_known 0 = .ok (.aload_n 0, 1) := by decide +kernel
theorem dX11_known_1 : decode cX11_known 1 = .ok (.iload_n 1, 1) := by decide +kernel
theorem dX11_known_2 : decode cX11_known 2 = .ok (.invokevirtual 96, 3) := by decide +kernel
theorem dX11_known_5 : decode cX11_known 5 = .ok (.ifCond .eq 11, 3) := by decide +kernel
theorem dX11_known_8 : decode cX11_known 8 = .ok (.aload_n 0, 1) := by decide +kernel
theorem dX11_known_9 : decode cX11_known 9 = .ok (.iload_n 2, 1) := by decide +kernel
theorem dX11_known_10 : decode cX11_known 10 = .ok (.invokevirtual 96, 3) := by decide +kernel
theorem dX11_known_13 : decode cX11_known 13 = .ok (.ifCond .ne 5, 3) := by decide +kernel
theorem dX11_known_16 : decode cX11_known 16 = .ok (.iconst (-1), 1) := by decide +kernel
theorem dX11_known_17 : decode cX11_known 17 = .ok (.ireturn, 1) := by decide +kernel
theorem dX11_known_18 : decode cX11_known 18 = .ok (.aload_n 0, 1) := by decide +kernel
theorem dX11_known_19 : decode cX11_known 19 = .ok (.getfield 128, 3) := by decide +kernel
theorem dX11_known_22 : decode cX11_known 22 = .ok (.iconst 4, 1) := by decide +kernel
theorem dX11_known_23 : decode cX11_known 23 = .ok (.if_icmp .le 6, 3) := by decide +kernel
theorem dX11_known_26 : decode cX11_known 26 = .ok (.bipush (-3), 2) := by decide +kernel
theorem dX11_known_28 : decode cX11_known 28 = .ok (.ireturn, 1) := by decide +kernel
theorem dX11_known_29 : decode cX11_known 29 = .ok (.aload_n 0, 1) := by decide +kernel
theorem dX11_known_30 : decode cX11_known 30 = .ok (.iload_n 1, 1) := by decide +kernel
theorem dX11_known_31 : decode cX11_known 31 = .ok (.iload_n 2, 1) := by decide +kernel
theorem dX11_known_32 : decode cX11_known 32 = .ok (.invokevirtual 210, 3) := by decide +kernel
theorem dX11_known_35 : decode cX11_known 35 = .ok (.ireturn, 1) := by decide +kernel
theorem dX11_end_0 : decode cX11_end 0 = .ok (.aload_n 0, 1) := by decide +kernel
theorem dX11_end_1 : decode cX11_end 1 = .ok (.iload_n 1, 1) := by decide +kernel
theorem dX11_end_2 : decode cX11_end 2 = .ok (.invokevirtual 96, 3) := by decide +kernel
theorem dX11_end_5 : decode cX11_end 5 = .ok (.ifCond .ne 5, 3) := by decide +kernel
theorem dX11_end_8 : decode cX11_end 8 = .ok (.iconst (-1), 1) := by decide +kernel
theorem dX11_end_9 : decode cX11_end 9 = .ok (.ireturn, 1) := by decide +kernel
theorem dX11_end_10 : decode cX11_end 10 = .ok (.aload_n 0, 1) := by decide +kernel
theorem dX11_end_11 : decode cX11_end 11 = .ok (.getfield 128, 3) := by decide +kernel
theorem dX11_end_14 : decode cX11_end 14 = .ok (.iconst 4, 1) := by decide +kernel
theorem dX11_end_15 : decode cX11_end 15 = .ok (.if_icmp .le 6, 3) := by decide +kernel
theorem dX11_end_18 : decode cX11_end 18 = .ok (.bipush (-3), 2) := by decide +kernel
theorem dX11_end_20 : decode cX11_end 20 = .ok (.ireturn, 1) := by decide +kernel
theorem dX11_end_21 : decode cX11_end 21 = .ok (.aload_n 0, 1) := by decide +kernel
theorem dX11_end_22 : decode cX11_end 22 = .ok (.getfield 99, 3) := by decide +kernel
theorem dX11_end_25 : decode cX11_end 25 = .ok (.invokestatic 214, 3) := by decide +kernel
theorem dX11_end_28 : decode cX11_end 28 = .ok (.istore_n 2, 1) := by decide +kernel
theorem dX11_end_29 : decode cX11_end 29 = .ok (.iconst 0, 1) := by decide +kernel
theorem dX11_end_30 : decode cX11_end 30 = .ok (.istore_n 3, 1) := by decide +kernel
theorem dX11_end_31 : decode cX11_end 31 = .ok (.iload_n 3, 1) := by decide +kernel
theorem dX11_end_32 : decode cX11_end 32 = .ok (.iload_n 2, 1) := by decide +kernel
theorem dX11_end_33 : decode cX11_end 33 = .ok (.if_icmp .ge 27, 3) := by decide +kernel
theorem dX11_end_36 : decode cX11_end 36 = .ok (.aload_n 0, 1) := by decide +kernel
theorem dX11_end_37 : decode cX11_end 37 = .ok (.iload_n 1, 1) := by decide +kernel
theorem dX11_end_38 : decode cX11_end 38 = .ok (.iload_n 3, 1) := by decide +kernel
theorem dX11_end_39 : decode cX11_end 39 = .ok (.invokevirtual 210, 3) := by decide +kernel
theorem dX11_end_42 : decode cX11_end 42 = .ok (.aload_n 0, 1) := by decide +kernel
theorem dX11_end_43 : decode cX11_end 43 = .ok (.getfield 99, 3) := by decide +kernel
theorem dX11_end_46 : decode cX11_end 46 = .ok (.invokestatic 217, 3) := by decide +kernel
theorem dX11_end_49 : decode cX11_end 49 = .ok (.if_icmp .eq 5, 3) := by decide +kernel
theorem dX11_end_52 : decode cX11_end 52 = .ok (.iconst 0, 1) := by decide +kernel
theorem dX11_end_53 : decode cX11_end 53 = .ok (.ireturn, 1) := by decide +kernel
theorem dX11_end_54 : decode cX11_end 54 = .ok (.iinc 3 1, 3) := by decide +kernel
theorem dX11_end_57 : decode cX11_end 57 = .ok (.goto (-26), 3) := by decide +kernel
theorem dX11_end_60 : decode cX11_end 60 = .ok (.iconst 1, 1) := by decide +kernel
theorem dX11_end_61 : decode cX11_end 61 = .ok (.ireturn, 1) := by decide +kernel
theorem dX11_joined_0 : decode cX11_joined 0 = .ok (.aload_n 0, 1) := by decide +kernel
theorem dX11_joined_1 : decode cX11_joined 1 = .ok (.invokevirtual 175, 3) := by decide +kernel
theorem dX11_joined_4 : decode cX11_joined 4 = .ok (.ifCond .eq 6, 3) := by decide +kernel
theorem dX11_joined_7 : decode cX11_joined 7 = .ok (.bipush (-3), 2) := by decide +kernel
theorem dX11_joined_9 : decode cX11_joined 9 = .ok (.ireturn, 1) := by decide +kernel
theorem dX11_joined_10 : decode cX11_joined 10 = .ok (.aload_n 0, 1) := by decide +kernel
theorem dX11_joined_11 : decode cX11_joined 11 = .ok (.getfield 110, 3) := by decide +kernel
theorem dX11_joined_14 : decode cX11_joined 14 = .ok (.invokestatic 214, 3) := by decide +kernel
theorem dX11_joined_17 : decode cX11_joined 17 = .ok (.aload_n 0, 1) := by decide +kernel
theorem dX11_joined_18 : decode cX11_joined 18 = .ok (.getfield 110, 3) := by decide +kernel
theorem dX11_joined_21 : decode cX11_joined 21 = .ok (.invokestatic 220, 3) := by decide +kernel
theorem dX11_joined_24 : decode cX11_joined 24 = .ok (.invokestatic 223, 3) := by decide +kernel
theorem dX11_joined_27 : decode cX11_joined 27 = .ok (.invokestatic 117, 3) := by decide +kernel
theorem dX11_joined_30 : decode cX11_joined 30 = .ok (.ireturn, 1) := by decide +kernel
theorem dX11_bridge_0 : decode cX11_bridge 0 = .ok (.aload_n 0, 1) := by decide +kernel
theorem dX11_bridge_1 : decode cX11_bridge 1 = .ok (.iload_n 1, 1) := by decide +kernel
theorem dX11_bridge_2 : decode cX11_bridge 2 = .ok (.invokevirtual 228, 3) := by decide +kernel
theorem dX11_bridge_5 : decode cX11_bridge 5 = .ok (.ifCond .ne 5, 3) := by decide +kernel
theorem dX11_bridge_8 : decode cX11_bridge 8 = .ok (.iconst (-1), 1) := by decide +kernel
theorem dX11_bridge_9 : decode cX11_bridge 9 = .ok (.ireturn, 1) := by decide +kernel
theorem dX11_bridge_10 : decode cX11_bridge 10 = .ok (.aload_n 0, 1) := by decide +kernel
theorem dX11_bridge_11 : decode cX11_bridge 11 = .ok (.getfield 110, 3) := by decide +kernel
theorem dX11_bridge_14 : decode cX11_bridge 14 = .ok (.invokestatic 214, 3) := by decide +kernel
theorem dX11_bridge_17 : decode cX11_bridge 17 = .ok (.istore_n 2, 1) := by decide +kernel
theorem dX11_bridge_18 : decode cX11_bridge 18 = .ok (.aload_n 0, 1) := by decide +kernel
theorem dX11_bridge_19 : decode cX11_bridge 19 = .ok (.getfield 110, 3) := by decide +kernel
theorem dX11_bridge_22 : decode cX11_bridge 22 = .ok (.invokestatic 220, 3) := by decide +kernel
theorem dX11_bridge_25 : decode cX11_bridge 25 = .ok (.istore_n 3, 1) := by decide +kernel
theorem dX11_bridge_26 : decode cX11_bridge 26 = .ok (.aload_n 0, 1) := by decide +kernel
theorem dX11_bridge_27 : decode cX11_bridge 27 = .ok (.invokevirtual 175, 3) := by decide +kernel
theorem dX11_bridge_30 : decode cX11_bridge 30 = .ok (.ifCond .ne 11, 3) := by decide +kernel
theorem dX11_bridge_33 : decode cX11_bridge 33 = .ok (.iload_n 2, 1) := by decide +kernel
theorem dX11_bridge_34 : decode cX11_bridge 34 = .ok (.iload_n 3, 1) := by decide +kernel
theorem dX11_bridge_35 : decode cX11_bridge 35 = .ok (.invokestatic 223, 3) := by decide +kernel
theorem dX11_bridge_38 : decode cX11_bridge 38 = .ok (.ifCond .ne 6, 3) := by decide +kernel
theorem dX11_bridge_41 : decode cX11_bridge 41 = .ok (.bipush (-3), 2) := by decide +kernel
theorem dX11_bridge_43 : decode cX11_bridge 43 = .ok (.ireturn, 1) := by decide +kernel
theorem dX11_bridge_44 : decode cX11_bridge 44 = .ok (.iload_n 2, 1) := by decide +kernel
theorem dX11_bridge_45 : decode cX11_bridge 45 = .ok (.iload_n 3, 1) := by decide +kernel
theorem dX11_bridge_46 : decode cX11_bridge 46 = .ok (.invokestatic 231, 3) := by decide +kernel
theorem dX11_bridge_49 : decode cX11_bridge 49 = .ok (.iload_n 1, 1) := by decide +kernel
theorem dX11_bridge_50 : decode cX11_bridge 50 = .ok (.invokestatic 234, 3) := by decide +kernel
theorem dX11_bridge_53 : decode cX11_bridge 53 = .ok (.ireturn, 1) := by decide +kernel
theorem dX11_sun_0 : decode cX11_sun 0 = .ok (.aload_n 0, 1) := by decide +kernel
theorem dX11_sun_1 : decode cX11_sun 1 = .ok (.invokevirtual 175, 3) := by decide +kernel
theorem dX11_sun_4 : decode cX11_sun 4 = .ok (.ifCond .eq 6, 3) := by decide +kernel
theorem dX11_sun_7 : decode cX11_sun 7 = .ok (.bipush (-3), 2) := by decide +kernel
theorem dX11_sun_9 : decode cX11_sun 9 = .ok (.ireturn, 1) := by decide +kernel
theorem dX11_sun_10 : decode cX11_sun 10 = .ok (.aload_n 0, 1) := by decide +kernel
theorem dX11_sun_11 : decode cX11_sun 11 = .ok (.getfield 110, 3) := by decide +kernel
theorem dX11_sun_14 : decode cX11_sun 14 = .ok (.invokestatic 214, 3) := by decide +kernel
theorem dX11_sun_17 : decode cX11_sun 17 = .ok (.aload_n 0, 1) := by decide +kernel
theorem dX11_sun_18 : decode cX11_sun 18 = .ok (.getfield 110, 3) := by decide +kernel
theorem dX11_sun_21 : decode cX11_sun 21 = .ok (.invokestatic 220, 3) := by decide +kernel
theorem dX11_sun_24 : decode cX11_sun 24 = .ok (.invokestatic 237, 3) := by decide +kernel
theorem dX11_sun_27 : decode cX11_sun 27 = .ok (.invokestatic 117, 3) := by decide +kernel
theorem dX11_sun_30 : decode cX11_sun 30 = .ok (.ireturn, 1) := by decide +kernel
theorem dX11_mend_0 : decode cX11_mend 0 = .ok (.aload_n 0, 1) := by decide +kernel
theorem dX11_mend_1 : decode cX11_mend 1 = .ok (.iload_n 1, 1) := by decide +kernel
theorem dX11_mend_2 : decode cX11_mend 2 = .ok (.invokevirtual 165, 3) := by decide +kernel
theorem dX11_mend_5 : decode cX11_mend 5 = .ok (.ifCond .eq 11, 3) := by decide +kernel
theorem dX11_mend_8 : decode cX11_mend 8 = .ok (.aload_n 0, 1) := by decide +kernel
theorem dX11_mend_9 : decode cX11_mend 9 = .ok (.iload_n 2, 1) := by decide +kernel
theorem dX11_mend_10 : decode cX11_mend 10 = .ok (.invokevirtual 228, 3) := by decide +kernel
theorem dX11_mend_13 : decode cX11_mend 13 = .ok (.ifCond .ne 5, 3) := by decide +kernel
theorem dX11_mend_16 : decode cX11_mend 16 = .ok (.iconst (-1), 1) := by decide +kernel
theorem dX11_mend_17 : decode cX11_mend 17 = .ok (.ireturn, 1) := by decide +kernel
theorem dX11_mend_18 : decode cX11_mend 18 = .ok (.aload_n 0, 1) := by decide +kernel
theorem dX11_mend_19 : decode cX11_mend 19 = .ok (.invokevirtual 175, 3) := by decide +kernel
theorem dX11_mend_22 : decode cX11_mend 22 = .ok (.ifCond .eq 6, 3) := by decide +kernel
theorem dX11_mend_25 : decode cX11_mend 25 = .ok (.bipush (-3), 2) := by decide +kernel
theorem dX11_mend_27 : decode cX11_mend 27 = .ok (.ireturn, 1) := by decide +kernel
theorem dX11_mend_28 : decode cX11_mend 28 = .ok (.aload_n 0, 1) := by decide +kernel
theorem dX11_mend_29 : decode cX11_mend 29 = .ok (.getfield 240, 3) := by decide +kernel
theorem dX11_mend_32 : decode cX11_mend 32 = .ok (.iload_n 1, 1) := by decide +kernel
theorem dX11_mend_33 : decode cX11_mend 33 = .ok (.invokestatic 125, 3) := by decide +kernel
theorem dX11_mend_36 : decode cX11_mend 36 = .ok (.ifCond .ne 26, 3) := by decide +kernel
theorem dX11_mend_39 : decode cX11_mend 39 = .ok (.aload_n 0, 1) := by decide +kernel
theorem dX11_mend_40 : decode cX11_mend 40 = .ok (.getfield 44, 3) := by decide +kernel
theorem dX11_mend_43 : decode cX11_mend 43 = .ok (.iload_n 1, 1) := by decide +kernel
theorem dX11_mend_44 : decode cX11_mend 44 = .ok (.aload_n 0, 1) := by decide +kernel
theorem dX11_mend_45 : decode cX11_mend 45 = .ok (.iload_n 1, 1) := by decide +kernel
theorem dX11_mend_46 : decode cX11_mend 46 = .ok (.invokevirtual 243, 3) := by decide +kernel
theorem dX11_mend_49 : decode cX11_mend 49 = .ok (.iastore, 1) := by decide +kernel
theorem dX11_mend_50 : decode cX11_mend 50 = .ok (.aload_n 0, 1) := by decide +kernel
theorem dX11_mend_51 : decode cX11_mend 51 = .ok (.dup, 1) := by decide +kernel
theorem dX11_mend_52 : decode cX11_mend 52 = .ok (.getfield 240, 3) := by decide +kernel
theorem dX11_mend_55 : decode cX11_mend 55 = .ok (.iconst 1, 1) := by decide +kernel
theorem dX11_mend_56 : decode cX11_mend 56 = .ok (.iload_n 1, 1) := by decide +kernel
theorem dX11_mend_57 : decode cX11_mend 57 = .ok (.ishl, 1) := by decide +kernel
theorem dX11_mend_58 : decode cX11_mend 58 = .ok (.ior, 1) := by decide +kernel
theorem dX11_mend_59 : decode cX11_mend 59 = .ok (.putfield 240, 3) := by decide +kernel
theorem dX11_mend_62 : decode cX11_mend 62 = .ok (.aload_n 0, 1) := by decide +kernel
theorem dX11_mend_63 : decode cX11_mend 63 = .ok (.getfield 44, 3) := by decide +kernel
theorem dX11_mend_66 : decode cX11_mend 66 = .ok (.iload_n 1, 1) := by decide +kernel
theorem dX11_mend_67 : decode cX11_mend 67 = .ok (.iaload, 1) := by decide +kernel
theorem dX11_mend_68 : decode cX11_mend 68 = .ok (.iload_n 2, 1) := by decide +kernel
theorem dX11_mend_69 : decode cX11_mend 69 = .ok (.invokestatic 234, 3) := by decide +kernel
theorem dX11_mend_72 : decode cX11_mend 72 = .ok (.ireturn, 1) := by decide +kernel
theorem dX11_nets_0 : decode cX11_nets 0 = .ok (.aload_n 0, 1) := by decide +kernel
theorem dX11_nets_1 : decode cX11_nets 1 = .ok (.iload_n 2, 1) := by decide +kernel
theorem dX11_nets_2 : decode cX11_nets 2 = .ok (.invokevirtual 165, 3) := by decide +kernel
theorem dX11_nets_5 : decode cX11_nets 5 = .ok (.ifCond .ne 5, 3) := by decide +kernel
theorem dX11_nets_8 : decode cX11_nets 8 = .ok (.iconst (-1), 1) := by decide +kernel
theorem dX11_nets_9 : decode cX11_nets 9 = .ok (.ireturn, 1) := by decide +kernel
theorem dX11_nets_10 : decode cX11_nets 10 = .ok (.iload_n 1, 1) := by decide +kernel
theorem dX11_nets_11 : decode cX11_nets 11 = .ok (.iconst 1, 1) := by decide +kernel
theorem dX11_nets_12 : decode cX11_nets 12 = .ok (.if_icmp .lt 17, 3) := by decide +kernel
theorem dX11_nets_15 : decode cX11_nets 15 = .ok (.iload_n 1, 1) := by decide +kernel
theorem dX11_nets_16 : decode cX11_nets 16 = .ok (.iconst 3, 1) := by decide +kernel
theorem dX11_nets_17 : decode cX11_nets 17 = .ok (.if_icmp .gt 12, 3) := by decide +kernel
theorem dX11_nets_20 : decode cX11_nets 20 = .ok (.iload_n 3, 1) := by decide +kernel
theorem dX11_nets_21 : decode cX11_nets 21 = .ok (.ifCond .lt 8, 3) := by decide +kernel
theorem dX11_nets_24 : decode cX11_nets 24 = .ok (.iload_n 3, 1) := by decide +kernel
theorem dX11_nets_25 : decode cX11_nets 25 = .ok (.iconst 4, 1) := by decide +kernel
theorem dX11_nets_26 : decode cX11_nets 26 = .ok (.if_icmp .lt 6, 3) := by decide +kernel
theorem dX11_nets_29 : decode cX11_nets 29 = .ok (.bipush (-2), 2) := by decide +kernel
theorem dX11_nets_31 : decode cX11_nets 31 = .ok (.ireturn, 1) := by decide +kernel
theorem dX11_nets_32 : decode cX11_nets 32 = .ok (.iload_n 1, 1) := by decide +kernel
theorem dX11_nets_33 : decode cX11_nets 33 = .ok (.iconst 1, 1) := by decide +kernel
theorem dX11_nets_34 : decode cX11_nets 34 = .ok (.isub, 1) := by decide +kernel
theorem dX11_nets_35 : decode cX11_nets 35 = .ok (.iconst 4, 1) := by decide +kernel
theorem dX11_nets_36 : decode cX11_nets 36 = .ok (.imul, 1) := by decide +kernel
theorem dX11_nets_37 : decode cX11_nets 37 = .ok (.iload_n 2, 1) := by decide +kernel
theorem dX11_nets_38 : decode cX11_nets 38 = .ok (.iadd, 1) := by decide +kernel
theorem dX11_nets_39 : decode cX11_nets 39 = .ok (.istore 4, 2) := by decide +kernel
theorem dX11_nets_41 : decode cX11_nets 41 = .ok (.aload_n 0, 1) := by decide +kernel
theorem dX11_nets_42 : decode cX11_nets 42 = .ok (.getfield 246, 3) := by decide +kernel
theorem dX11_nets_45 : decode cX11_nets 45 = .ok (.iload 4, 2) := by decide +kernel
theorem dX11_nets_47 : decode cX11_nets 47 = .ok (.invokestatic 125, 3) := by decide +kernel
theorem dX11_nets_50 : decode cX11_nets 50 = .ok (.ifCond .ne 26, 3) := by decide +kernel
theorem dX11_nets_53 : decode cX11_nets 53 = .ok (.aload_n 0, 1) := by decide +kernel
theorem dX11_nets_54 : decode cX11_nets 54 = .ok (.iload_n 1, 1) := by decide +kernel
theorem dX11_nets_55 : decode cX11_nets 55 = .ok (.iload_n 2, 1) := by decide +kernel
theorem dX11_nets_56 : decode cX11_nets 56 = .ok (.iconst 4, 1) := by decide +kernel
theorem dX11_nets_57 : decode cX11_nets 57 = .ok (.iload 4, 2) := by decide +kernel
theorem dX11_nets_59 : decode cX11_nets 59 = .ok (.imul, 1) := by decide +kernel
theorem dX11_nets_60 : decode cX11_nets 60 = .ok (.invokevirtual 249, 3) := by decide +kernel
theorem dX11_nets_63 : decode cX11_nets 63 = .ok (.aload_n 0, 1) := by decide +kernel
theorem dX11_nets_64 : decode cX11_nets 64 = .ok (.dup, 1) := by decide +kernel
theorem dX11_nets_65 : decode cX11_nets 65 = .ok (.getfield 246, 3) := by decide +kernel
theorem dX11_nets_68 : decode cX11_nets 68 = .ok (.iconst 1, 1) := by decide +kernel
theorem dX11_nets_69 : decode cX11_nets 69 = .ok (.iload 4, 2) := by decide +kernel
theorem dX11_nets_71 : decode cX11_nets 71 = .ok (.ishl, 1) := by decide +kernel
theorem dX11_nets_72 : decode cX11_nets 72 = .ok (.ior, 1) := by decide +kernel
theorem dX11_nets_73 : decode cX11_nets 73 = .ok (.putfield 246, 3) := by decide +kernel
theorem dX11_nets_76 : decode cX11_nets 76 = .ok (.aload_n 0, 1) := by decide +kernel
theorem dX11_nets_77 : decode cX11_nets 77 = .ok (.getfield 48, 3) := by decide +kernel
theorem dX11_nets_80 : decode cX11_nets 80 = .ok (.iconst 4, 1) := by decide +kernel
theorem dX11_nets_81 : decode cX11_nets 81 = .ok (.iload 4, 2) := by decide +kernel
theorem dX11_nets_83 : decode cX11_nets 83 = .ok (.imul, 1) := by decide +kernel
theorem dX11_nets_84 : decode cX11_nets 84 = .ok (.iload_n 3, 1) := by decide +kernel
theorem dX11_nets_85 : decode cX11_nets 85 = .ok (.iadd, 1) := by decide +kernel
theorem dX11_nets_86 : decode cX11_nets 86 = .ok (.iaload, 1) := by decide +kernel
theorem dX11_nets_87 : decode cX11_nets 87 = .ok (.ireturn, 1) := by decide +kernel
theorem dX11_within_0 : decode cX11_within 0 = .ok (.aload_n 0, 1) := by decide +kernel
theorem dX11_within_1 : decode cX11_within 1 = .ok (.iload_n 1, 1) := by decide +kernel
theorem dX11_within_2 : decode cX11_within 2 = .ok (.invokevirtual 165, 3) := by decide +kernel
theorem dX11_within_5 : decode cX11_within 5 = .ok (.ifCond .eq 11, 3) := by decide +kernel
theorem dX11_within_8 : decode cX11_within 8 = .ok (.aload_n 0, 1) := by decide +kernel
theorem dX11_within_9 : decode cX11_within 9 = .ok (.iload_n 2, 1) := by decide +kernel
theorem dX11_within_10 : decode cX11_within 10 = .ok (.invokevirtual 165, 3) := by decide +kernel
theorem dX11_within_13 : decode cX11_within 13 = .ok (.ifCond .ne 5, 3) := by decide +kernel
theorem dX11_within_16 : decode cX11_within 16 = .ok (.iconst (-1), 1) := by decide +kernel
theorem dX11_within_17 : decode cX11_within 17 = .ok (.ireturn, 1) := by decide +kernel
theorem dX11_within_18 : decode cX11_within 18 = .ok (.iload_n 1, 1) := by decide +kernel
theorem dX11_within_19 : decode cX11_within 19 = .ok (.iconst 2, 1) := by decide +kernel
theorem dX11_within_20 : decode cX11_within 20 = .ok (.if_icmp .ne 8, 3) := by decide +kernel
theorem dX11_within_23 : decode cX11_within 23 = .ok (.iload_n 2, 1) := by decide +kernel
theorem dX11_within_24 : decode cX11_within 24 = .ok (.iconst 3, 1) := by decide +kernel
theorem dX11_within_25 : decode cX11_within 25 = .ok (.if_icmp .eq 13, 3) := by decide +kernel
theorem dX11_within_28 : decode cX11_within 28 = .ok (.iload_n 1, 1) := by decide +kernel
theorem dX11_within_29 : decode cX11_within 29 = .ok (.iconst 3, 1) := by decide +kernel
theorem dX11_within_30 : decode cX11_within 30 = .ok (.if_icmp .ne 11, 3) := by decide +kernel
theorem dX11_within_33 : decode cX11_within 33 = .ok (.iload_n 2, 1) := by decide +kernel
theorem dX11_within_34 : decode cX11_within 34 = .ok (.iconst 2, 1) := by decide +kernel
theorem dX11_within_35 : decode cX11_within 35 = .ok (.if_icmp .ne 6, 3) := by decide +kernel
theorem dX11_within_38 : decode cX11_within 38 = .ok (.bipush (-2), 2) := by decide +kernel
theorem dX11_within_40 : decode cX11_within 40 = .ok (.ireturn, 1) := by decide +kernel
theorem dX11_within_41 : decode cX11_within 41 = .ok (.aload_n 0, 1) := by decide +kernel
theorem dX11_within_42 : decode cX11_within 42 = .ok (.invokevirtual 175, 3) := by decide +kernel
theorem dX11_within_45 : decode cX11_within 45 = .ok (.ifCond .eq 6, 3) := by decide +kernel
theorem dX11_within_48 : decode cX11_within 48 = .ok (.bipush (-3), 2) := by decide +kernel
theorem dX11_within_50 : decode cX11_within 50 = .ok (.ireturn, 1) := by decide +kernel
theorem dX11_within_51 : decode cX11_within 51 = .ok (.aload_n 0, 1) := by decide +kernel
theorem dX11_within_52 : decode cX11_within 52 = .ok (.getfield 33, 3) := by decide +kernel
theorem dX11_within_55 : decode cX11_within 55 = .ok (.aload_n 0, 1) := by decide +kernel
theorem dX11_within_56 : decode cX11_within 56 = .ok (.getfield 99, 3) := by decide +kernel
theorem dX11_within_59 : decode cX11_within 59 = .ok (.iload_n 1, 1) := by decide +kernel
theorem dX11_within_60 : decode cX11_within 60 = .ok (.iload_n 2, 1) := by decide +kernel
theorem dX11_within_61 : decode cX11_within 61 = .ok (.invokevirtual 253, 3) := by decide +kernel
theorem dX11_within_64 : decode cX11_within 64 = .ok (.invokestatic 117, 3) := by decide +kernel
theorem dX11_within_67 : decode cX11_within 67 = .ok (.ireturn, 1) := by decide +kernel
theorem dX11_sheet_0 : decode cX11_sheet 0 = .ok (.aload_n 0, 1) := by decide +kernel
theorem dX11_sheet_1 : decode cX11_sheet 1 = .ok (.iconst 0, 1) := by decide +kernel
theorem dX11_sheet_2 : decode cX11_sheet 2 = .ok (.putfield 51, 3) := by decide +kernel
theorem dX11_sheet_5 : decode cX11_sheet 5 = .ok (.aload_n 0, 1) := by decide +kernel
theorem dX11_sheet_6 : decode cX11_sheet 6 = .ok (.iload_n 1, 1) := by decide +kernel
theorem dX11_sheet_7 : decode cX11_sheet 7 = .ok (.invokevirtual 55, 3) := by decide +kernel
theorem dX11_sheet_10 : decode cX11_sheet 10 = .ok (.ifCond .ne 5, 3) := by decide +kernel
theorem dX11_sheet_13 : decode cX11_sheet 13 = .ok (.iconst (-1), 1) := by decide +kernel
theorem dX11_sheet_14 : decode cX11_sheet 14 = .ok (.ireturn, 1) := by decide +kernel
theorem dX11_sheet_15 : decode cX11_sheet 15 = .ok (.aload_n 0, 1) := by decide +kernel
theorem dX11_sheet_16 : decode cX11_sheet 16 = .ok (.iload_n 2, 1) := by decide +kernel
theorem dX11_sheet_17 : decode cX11_sheet 17 = .ok (.invokevirtual 59, 3) := by decide +kernel
theorem dX11_sheet_20 : decode cX11_sheet 20 = .ok (.ifCond .eq 9, 3) := by decide +kernel
theorem dX11_sheet_23 : decode cX11_sheet 23 = .ok (.iload_n 3, 1) := by decide +kernel
theorem dX11_sheet_24 : decode cX11_sheet 24 = .ok (.bipush 60, 2) := by decide +kernel
theorem dX11_sheet_26 : decode cX11_sheet 26 = .ok (.if_icmp .le 6, 3) := by decide +kernel
theorem dX11_sheet_29 : decode cX11_sheet 29 = .ok (.bipush (-2), 2) := by decide +kernel
theorem dX11_sheet_31 : decode cX11_sheet 31 = .ok (.ireturn, 1) := by decide +kernel
theorem dX11_sheet_32 : decode cX11_sheet 32 = .ok (.iload_n 3, 1) := by decide +kernel
theorem dX11_sheet_33 : decode cX11_sheet 33 = .ok (.ifCond .ge 9, 3) := by decide +kernel
theorem dX11_sheet_36 : decode cX11_sheet 36 = .ok (.aload_n 0, 1) := by decide +kernel
theorem dX11_sheet_37 : decode cX11_sheet 37 = .ok (.iconst 4, 1) := by decide +kernel
theorem dX11_sheet_38 : decode cX11_sheet 38 = .ok (.invokevirtual 62, 3) := by decide +kernel
theorem dX11_sheet_41 : decode cX11_sheet 41 = .ok (.ireturn, 1) := by decide +kernel
theorem dX11_sheet_42 : decode cX11_sheet 42 = .ok (.aload_n 0, 1) := by decide +kernel
theorem dX11_sheet_43 : decode cX11_sheet 43 = .ok (.getfield 13, 3) := by decide +kernel
theorem dX11_sheet_46 : decode cX11_sheet 46 = .ok (.iload_n 1, 1) := by decide +kernel
theorem dX11_sheet_47 : decode cX11_sheet 47 = .ok (.new 11, 3) := by decide +kernel
theorem dX11_sheet_50 : decode cX11_sheet 50 = .ok (.dup, 1) := by decide +kernel
theorem dX11_sheet_51 : decode cX11_sheet 51 = .ok (.iload_n 2, 1) := by decide +kernel
theorem dX11_sheet_52 : decode cX11_sheet 52 = .ok (.iload_n 3, 1) := by decide +kernel
theorem dX11_sheet_53 : decode cX11_sheet 53 = .ok (.invokespecial 256, 3) := by decide +kernel
theorem dX11_sheet_56 : decode cX11_sheet 56 = .ok (.aastore, 1) := by decide +kernel
theorem dX11_sheet_57 : decode cX11_sheet 57 = .ok (.iconst 1, 1) := by decide +kernel
theorem dX11_sheet_58 : decode cX11_sheet 58 = .ok (.ireturn, 1) := by decide +kernel
theorem dX11_lose_0 : decode cX11_lose 0 = .ok (.aload_n 0, 1) := by decide +kernel
theorem dX11_lose_1 : decode cX11_lose 1 = .ok (.iload_n 1, 1) := by decide +kernel
theorem dX11_lose_2 : decode cX11_lose 2 = .ok (.invokevirtual 55, 3) := by decide +kernel
theorem dX11_lose_5 : decode cX11_lose 5 = .ok (.ifCond .ne 5, 3) := by decide +kernel
theorem dX11_lose_8 : decode cX11_lose 8 = .ok (.iconst (-1), 1) := by decide +kernel
theorem dX11_lose_9 : decode cX11_lose 9 = .ok (.ireturn, 1) := by decide +kernel
theorem dX11_lose_10 : decode cX11_lose 10 = .ok (.aload_n 0, 1) := by decide +kernel
theorem dX11_lose_11 : decode cX11_lose 11 = .ok (.getfield 13, 3) := by decide +kernel
theorem dX11_lose_14 : decode cX11_lose 14 = .ok (.iload_n 1, 1) := by decide +kernel
theorem dX11_lose_15 : decode cX11_lose 15 = .ok (.aaload, 1) := by decide +kernel
theorem dX11_lose_16 : decode cX11_lose 16 = .ok (.ifnonnull 5, 3) := by decide +kernel
theorem dX11_lose_19 : decode cX11_lose 19 = .ok (.iconst 0, 1) := by decide +kernel
theorem dX11_lose_20 : decode cX11_lose 20 = .ok (.ireturn, 1) := by decide +kernel
theorem dX11_lose_21 : decode cX11_lose 21 = .ok (.aload_n 0, 1) := by decide +kernel
theorem dX11_lose_22 : decode cX11_lose 22 = .ok (.getfield 13, 3) := by decide +kernel
theorem dX11_lose_25 : decode cX11_lose 25 = .ok (.iload_n 1, 1) := by decide +kernel
theorem dX11_lose_26 : decode cX11_lose 26 = .ok (.aconst_null, 1) := by decide +kernel
theorem dX11_lose_27 : decode cX11_lose 27 = .ok (.aastore, 1) := by decide +kernel
theorem dX11_lose_28 : decode cX11_lose 28 = .ok (.iconst 1, 1) := by decide +kernel
theorem dX11_lose_29 : decode cX11_lose 29 = .ok (.ireturn, 1) := by decide +kernel
theorem dX11_put_0 : decode cX11_put 0 = .ok (.aload_n 0, 1) := by decide +kernel
theorem dX11_put_1 : decode cX11_put 1 = .ok (.iconst 0, 1) := by decide +kernel
theorem dX11_put_2 : decode cX11_put 2 = .ok (.putfield 51, 3) := by decide +kernel
theorem dX11_put_5 : decode cX11_put 5 = .ok (.aload_n 0, 1) := by decide +kernel
theorem dX11_put_6 : decode cX11_put 6 = .ok (.iload_n 1, 1) := by decide +kernel
theorem dX11_put_7 : decode cX11_put 7 = .ok (.invokevirtual 55, 3) := by decide +kernel
theorem dX11_put_10 : decode cX11_put 10 = .ok (.ifCond .ne 5, 3) := by decide +kernel
theorem dX11_put_13 : decode cX11_put 13 = .ok (.iconst (-1), 1) := by decide +kernel
theorem dX11_put_14 : decode cX11_put 14 = .ok (.ireturn, 1) := by decide +kernel
theorem dX11_put_15 : decode cX11_put 15 = .ok (.aload_n 0, 1) := by decide +kernel
theorem dX11_put_16 : decode cX11_put 16 = .ok (.getfield 13, 3) := by decide +kernel
theorem dX11_put_19 : decode cX11_put 19 = .ok (.iload_n 1, 1) := by decide +kernel
theorem dX11_put_20 : decode cX11_put 20 = .ok (.aaload, 1) := by decide +kernel
theorem dX11_put_21 : decode cX11_put 21 = .ok (.astore 4, 2) := by decide +kernel
theorem dX11_put_23 : decode cX11_put 23 = .ok (.aload 4, 2) := by decide +kernel
theorem dX11_put_25 : decode cX11_put 25 = .ok (.ifnonnull 9, 3) := by decide +kernel
theorem dX11_put_28 : decode cX11_put 28 = .ok (.aload_n 0, 1) := by decide +kernel
theorem dX11_put_29 : decode cX11_put 29 = .ok (.iconst 1, 1) := by decide +kernel
theorem dX11_put_30 : decode cX11_put 30 = .ok (.invokevirtual 62, 3) := by decide +kernel
theorem dX11_put_33 : decode cX11_put 33 = .ok (.ireturn, 1) := by decide +kernel
theorem dX11_put_34 : decode cX11_put 34 = .ok (.aload 4, 2) := by decide +kernel
theorem dX11_put_36 : decode cX11_put 36 = .ok (.iload_n 2, 1) := by decide +kernel
theorem dX11_put_37 : decode cX11_put 37 = .ok (.iconst 1, 1) := by decide +kernel
theorem dX11_put_38 : decode cX11_put 38 = .ok (.invokevirtual 69, 3) := by decide +kernel
theorem dX11_put_41 : decode cX11_put 41 = .ok (.ifCond .ne 9, 3) := by decide +kernel
theorem dX11_put_44 : decode cX11_put 44 = .ok (.aload_n 0, 1) := by decide +kernel
theorem dX11_put_45 : decode cX11_put 45 = .ok (.iconst 3, 1) := by decide +kernel
theorem dX11_put_46 : decode cX11_put 46 = .ok (.invokevirtual 62, 3) := by decide +kernel
theorem dX11_put_49 : decode cX11_put 49 = .ok (.ireturn, 1) := by decide +kernel
theorem dX11_put_50 : decode cX11_put 50 = .ok (.aload 4, 2) := by decide +kernel
theorem dX11_put_52 : decode cX11_put 52 = .ok (.iload_n 2, 1) := by decide +kernel
theorem dX11_put_53 : decode cX11_put 53 = .ok (.iload_n 3, 1) := by decide +kernel
theorem dX11_put_54 : decode cX11_put 54 = .ok (.invokevirtual 259, 3) := by decide +kernel
theorem dX11_put_57 : decode cX11_put 57 = .ok (.iconst 1, 1) := by decide +kernel
theorem dX11_put_58 : decode cX11_put 58 = .ok (.ireturn, 1) := by decide +kernel
theorem dX11_cell_0 : decode cX11_cell 0 = .ok (.aload_n 0, 1) := by decide +kernel
theorem dX11_cell_1 : decode cX11_cell 1 = .ok (.iconst 0, 1) := by decide +kernel
theorem dX11_cell_2 : decode cX11_cell 2 = .ok (.putfield 51, 3) := by decide +kernel
theorem dX11_cell_5 : decode cX11_cell 5 = .ok (.aload_n 0, 1) := by decide +kernel
theorem dX11_cell_6 : decode cX11_cell 6 = .ok (.iload_n 1, 1) := by decide +kernel
theorem dX11_cell_7 : decode cX11_cell 7 = .ok (.invokevirtual 55, 3) := by decide +kernel
theorem dX11_cell_10 : decode cX11_cell 10 = .ok (.ifCond .eq 11, 3) := by decide +kernel
theorem dX11_cell_13 : decode cX11_cell 13 = .ok (.aload_n 0, 1) := by decide +kernel
theorem dX11_cell_14 : decode cX11_cell 14 = .ok (.iload_n 3, 1) := by decide +kernel
theorem dX11_cell_15 : decode cX11_cell 15 = .ok (.invokevirtual 59, 3) := by decide +kernel
theorem dX11_cell_18 : decode cX11_cell 18 = .ok (.ifCond .ne 7, 3) := by decide +kernel
theorem dX11_cell_21 : decode cX11_cell 21 = .ok (.ldc2_w 179, 3) := by decide +kernel
theorem dX11_cell_24 : decode cX11_cell 24 = .ok (.lreturn, 1) := by decide +kernel
theorem dX11_cell_25 : decode cX11_cell 25 = .ok (.aload_n 0, 1) := by decide +kernel
theorem dX11_cell_26 : decode cX11_cell 26 = .ok (.getfield 13, 3) := by decide +kernel
theorem dX11_cell_29 : decode cX11_cell 29 = .ok (.iload_n 1, 1) := by decide +kernel
theorem dX11_cell_30 : decode cX11_cell 30 = .ok (.aaload, 1) := by decide +kernel
theorem dX11_cell_31 : decode cX11_cell 31 = .ok (.astore 4, 2) := by decide +kernel
theorem dX11_cell_33 : decode cX11_cell 33 = .ok (.aload_n 0, 1) := by decide +kernel
theorem dX11_cell_34 : decode cX11_cell 34 = .ok (.aload 4, 2) := by decide +kernel
theorem dX11_cell_36 : decode cX11_cell 36 = .ok (.ifnonnull 7, 3) := by decide +kernel
theorem dX11_cell_39 : decode cX11_cell 39 = .ok (.iconst 1, 1) := by decide +kernel
theorem dX11_cell_40 : decode cX11_cell 40 = .ok (.goto 31, 3) := by decide +kernel
theorem dX11_cell_43 : decode cX11_cell 43 = .ok (.aload 4, 2) := by decide +kernel
theorem dX11_cell_45 : decode cX11_cell 45 = .ok (.getfield 66, 3) := by decide +kernel
theorem dX11_cell_48 : decode cX11_cell 48 = .ok (.iload_n 3, 1) := by decide +kernel
theorem dX11_cell_49 : decode cX11_cell 49 = .ok (.if_icmp .eq 7, 3) := by decide +kernel
theorem dX11_cell_52 : decode cX11_cell 52 = .ok (.iconst 2, 1) := by decide +kernel
theorem dX11_cell_53 : decode cX11_cell 53 = .ok (.goto 18, 3) := by decide +kernel
theorem dX11_cell_56 : decode cX11_cell 56 = .ok (.aload 4, 2) := by decide +kernel
theorem dX11_cell_58 : decode cX11_cell 58 = .ok (.iload_n 2, 1) := by decide +kernel
theorem dX11_cell_59 : decode cX11_cell 59 = .ok (.iconst 1, 1) := by decide +kernel
theorem dX11_cell_60 : decode cX11_cell 60 = .ok (.invokevirtual 69, 3) := by decide +kernel
theorem dX11_cell_63 : decode cX11_cell 63 = .ok (.ifCond .ne 7, 3) := by decide +kernel
theorem dX11_cell_66 : decode cX11_cell 66 = .ok (.iconst 3, 1) := by decide +kernel
theorem dX11_cell_67 : decode cX11_cell 67 = .ok (.goto 4, 3) := by decide +kernel
theorem dX11_cell_70 : decode cX11_cell 70 = .ok (.iconst 0, 1) := by decide +kernel
theorem dX11_cell_71 : decode cX11_cell 71 = .ok (.putfield 51, 3) := by decide +kernel
theorem dX11_cell_74 : decode cX11_cell 74 = .ok (.aload 4, 2) := by decide +kernel
theorem dX11_cell_76 : decode cX11_cell 76 = .ok (.ifnull 10, 3) := by decide +kernel
theorem dX11_cell_79 : decode cX11_cell 79 = .ok (.aload_n 0, 1) := by decide +kernel
theorem dX11_cell_80 : decode cX11_cell 80 = .ok (.getfield 51, 3) := by decide +kernel
theorem dX11_cell_83 : decode cX11_cell 83 = .ok (.ifCond .eq 9, 3) := by decide +kernel
theorem dX11_cell_86 : decode cX11_cell 86 = .ok (.ldc2_w 179, 3) := by decide +kernel
theorem dX11_cell_89 : decode cX11_cell 89 = .ok (.goto 10, 3) := by decide +kernel
theorem dX11_cell_92 : decode cX11_cell 92 = .ok (.aload 4, 2) := by decide +kernel
theorem dX11_cell_94 : decode cX11_cell 94 = .ok (.iload_n 2, 1) := by decide +kernel
theorem dX11_cell_95 : decode cX11_cell 95 = .ok (.invokevirtual 262, 3) := by decide +kernel
theorem dX11_cell_98 : decode cX11_cell 98 = .ok (.i2l, 1) := by decide +kernel
theorem dX11_cell_99 : decode cX11_cell 99 = .ok (.lreturn, 1) := by decide +kernel
theorem dX11_copy_0 : decode cX11_copy 0 = .ok (.aload_n 0, 1) := by decide +kernel
theorem dX11_copy_1 : decode cX11_copy 1 = .ok (.iconst 0, 1) := by decide +kernel
theorem dX11_copy_2 : decode cX11_copy 2 = .ok (.putfield 51, 3) := by decide +kernel
theorem dX11_copy_5 : decode cX11_copy 5 = .ok (.aload_n 0, 1) := by decide +kernel
theorem dX11_copy_6 : decode cX11_copy 6 = .ok (.iload_n 1, 1) := by decide +kernel
theorem dX11_copy_7 : decode cX11_copy 7 = .ok (.invokevirtual 55, 3) := by decide +kernel
theorem dX11_copy_10 : decode cX11_copy 10 = .ok (.ifCond .eq 11, 3) := by decide +kernel
theorem dX11_copy_13 : decode cX11_copy 13 = .ok (.aload_n 0, 1) := by decide +kernel
theorem dX11_copy_14 : decode cX11_copy 14 = .ok (.iload_n 3, 1) := by decide +kernel
theorem dX11_copy_15 : decode cX11_copy 15 = .ok (.invokevirtual 55, 3) := by decide +kernel
theorem dX11_copy_18 : decode cX11_copy 18 = .ok (.ifCond .ne 5, 3) := by decide +kernel
theorem dX11_copy_21 : decode cX11_copy 21 = .ok (.iconst (-1), 1) := by decide +kernel
theorem dX11_copy_22 : decode cX11_copy 22 = .ok (.ireturn, 1) := by decide +kernel
theorem dX11_copy_23 : decode cX11_copy 23 = .ok (.aload_n 0, 1) := by decide +kernel
theorem dX11_copy_24 : decode cX11_copy 24 = .ok (.getfield 13, 3) := by decide +kernel
theorem dX11_copy_27 : decode cX11_copy 27 = .ok (.iload_n 1, 1) := by decide +kernel
theorem dX11_copy_28 : decode cX11_copy 28 = .ok (.aaload, 1) := by decide +kernel
theorem dX11_copy_29 : decode cX11_copy 29 = .ok (.astore 6, 2) := by decide +kernel
theorem dX11_copy_31 : decode cX11_copy 31 = .ok (.aload_n 0, 1) := by decide +kernel
theorem dX11_copy_32 : decode cX11_copy 32 = .ok (.getfield 13, 3) := by decide +kernel
theorem dX11_copy_35 : decode cX11_copy 35 = .ok (.iload_n 3, 1) := by decide +kernel
theorem dX11_copy_36 : decode cX11_copy 36 = .ok (.aaload, 1) := by decide +kernel
theorem dX11_copy_37 : decode cX11_copy 37 = .ok (.astore 7, 2) := by decide +kernel
theorem dX11_copy_39 : decode cX11_copy 39 = .ok (.aload 6, 2) := by decide +kernel
theorem dX11_copy_41 : decode cX11_copy 41 = .ok (.ifnull 8, 3) := by decide +kernel
theorem dX11_copy_44 : decode cX11_copy 44 = .ok (.aload 7, 2) := by decide +kernel
theorem dX11_copy_46 : decode cX11_copy 46 = .ok (.ifnonnull 9, 3) := by decide +kernel
theorem dX11_copy_49 : decode cX11_copy 49 = .ok (.aload_n 0, 1) := by decide +kernel
theorem dX11_copy_50 : decode cX11_copy 50 = .ok (.iconst 1, 1) := by decide +kernel
theorem dX11_copy_51 : decode cX11_copy 51 = .ok (.invokevirtual 62, 3) := by decide +kernel
theorem dX11_copy_54 : decode cX11_copy 54 = .ok (.ireturn, 1) := by decide +kernel
theorem dX11_copy_55 : decode cX11_copy 55 = .ok (.aload 6, 2) := by decide +kernel
theorem dX11_copy_57 : decode cX11_copy 57 = .ok (.getfield 66, 3) := by decide +kernel
theorem dX11_copy_60 : decode cX11_copy 60 = .ok (.aload 7, 2) := by decide +kernel
theorem dX11_copy_62 : decode cX11_copy 62 = .ok (.getfield 66, 3) := by decide +kernel
theorem dX11_copy_65 : decode cX11_copy 65 = .ok (.if_icmp .eq 9, 3) := by decide +kernel
theorem dX11_copy_68 : decode cX11_copy 68 = .ok (.aload_n 0, 1) := by decide +kernel
theorem dX11_copy_69 : decode cX11_copy 69 = .ok (.iconst 2, 1) := by decide +kernel
theorem dX11_copy_70 : decode cX11_copy 70 = .ok (.invokevirtual 62, 3) := by decide +kernel
theorem dX11_copy_73 : decode cX11_copy 73 = .ok (.ireturn, 1) := by decide +kernel
theorem dX11_copy_74 : decode cX11_copy 74 = .ok (.aload 6, 2) := by decide +kernel
theorem dX11_copy_76 : decode cX11_copy 76 = .ok (.iload_n 2, 1) := by decide +kernel
theorem dX11_copy_77 : decode cX11_copy 77 = .ok (.iload 5, 2) := by decide +kernel
theorem dX11_copy_79 : decode cX11_copy 79 = .ok (.invokevirtual 69, 3) := by decide +kernel
theorem dX11_copy_82 : decode cX11_copy 82 = .ok (.ifCond .eq 15, 3) := by decide +kernel
theorem dX11_copy_85 : decode cX11_copy 85 = .ok (.aload 7, 2) := by decide +kernel
theorem dX11_copy_87 : decode cX11_copy 87 = .ok (.iload 4, 2) := by decide +kernel
theorem dX11_copy_89 : decode cX11_copy 89 = .ok (.iload 5, 2) := by decide +kernel
theorem dX11_copy_91 : decode cX11_copy 91 = .ok (.invokevirtual 69, 3) := by decide +kernel
theorem dX11_copy_94 : decode cX11_copy 94 = .ok (.ifCond .ne 9, 3) := by decide +kernel
theorem dX11_copy_97 : decode cX11_copy 97 = .ok (.aload_n 0, 1) := by decide +kernel
theorem dX11_copy_98 : decode cX11_copy 98 = .ok (.iconst 3, 1) := by decide +kernel
theorem dX11_copy_99 : decode cX11_copy 99 = .ok (.invokevirtual 62, 3) := by decide +kernel
theorem dX11_copy_102 : decode cX11_copy 102 = .ok (.ireturn, 1) := by decide +kernel
theorem dX11_copy_103 : decode cX11_copy 103 = .ok (.aload 6, 2) := by decide +kernel
theorem dX11_copy_105 : decode cX11_copy 105 = .ok (.getfield 265, 3) := by decide +kernel
theorem dX11_copy_108 : decode cX11_copy 108 = .ok (.iload_n 2, 1) := by decide +kernel
theorem dX11_copy_109 : decode cX11_copy 109 = .ok (.aload 7, 2) := by decide +kernel
theorem dX11_copy_111 : decode cX11_copy 111 = .ok (.getfield 265, 3) := by decide +kernel
theorem dX11_copy_114 : decode cX11_copy 114 = .ok (.iload 4, 2) := by decide +kernel
theorem dX11_copy_116 : decode cX11_copy 116 = .ok (.iload 5, 2) := by decide +kernel
theorem dX11_copy_118 : decode cX11_copy 118 = .ok (.invokestatic 268, 3) := by decide +kernel
theorem dX11_copy_121 : decode cX11_copy 121 = .ok (.iload 5, 2) := by decide +kernel
theorem dX11_copy_123 : decode cX11_copy 123 = .ok (.ireturn, 1) := by decide +kernel
theorem dX11_tell_0 : decode cX11_tell 0 = .ok (.aload_n 0, 1) := by decide +kernel
theorem dX11_tell_1 : decode cX11_tell 1 = .ok (.iload_n 1, 1) := by decide +kernel
theorem dX11_tell_2 : decode cX11_tell 2 = .ok (.invokevirtual 142, 3) := by decide +kernel
theorem dX11_tell_5 : decode cX11_tell 5 = .ok (.astore_n 2, 1) := by decide +kernel
theorem dX11_tell_6 : decode cX11_tell 6 = .ok (.aload_n 2, 1) := by decide +kernel
theorem dX11_tell_7 : decode cX11_tell 7 = .ok (.ifnonnull 7, 3) := by decide +kernel
theorem dX11_tell_10 : decode cX11_tell 10 = .ok (.iconst (-1), 1) := by decide +kernel
theorem dX11_tell_11 : decode cX11_tell 11 = .ok (.goto 11, 3) := by decide +kernel
theorem dX11_tell_14 : decode cX11_tell 14 = .ok (.aload_n 2, 1) := by decide +kernel
theorem dX11_tell_15 : decode cX11_tell 15 = .ok (.aload_n 0, 1) := by decide +kernel
theorem dX11_tell_16 : decode cX11_tell 16 = .ok (.getfield 26, 3) := by decide +kernel
theorem dX11_tell_19 : decode cX11_tell 19 = .ok (.invokevirtual 274, 3) := by decide +kernel
theorem dX11_tell_22 : decode cX11_tell 22 = .ok (.ireturn, 1) := by decide +kernel
theorem dX11_log_0 : decode cX11_log 0 = .ok (.aload_n 0, 1) := by decide +kernel
theorem dX11_log_1 : decode cX11_log 1 = .ok (.iload_n 1, 1) := by decide +kernel
theorem dX11_log_2 : decode cX11_log 2 = .ok (.invokevirtual 142, 3) := by decide +kernel
theorem dX11_log_5 : decode cX11_log 5 = .ok (.astore_n 2, 1) := by decide +kernel
theorem dX11_log_6 : decode cX11_log 6 = .ok (.aload_n 2, 1) := by decide +kernel
theorem dX11_log_7 : decode cX11_log 7 = .ok (.ifnonnull 7, 3) := by decide +kernel
theorem dX11_log_10 : decode cX11_log 10 = .ok (.iconst (-1), 1) := by decide +kernel
theorem dX11_log_11 : decode cX11_log 11 = .ok (.goto 11, 3) := by decide +kernel
theorem dX11_log_14 : decode cX11_log 14 = .ok (.aload_n 2, 1) := by decide +kernel
theorem dX11_log_15 : decode cX11_log 15 = .ok (.aload_n 0, 1) := by decide +kernel
theorem dX11_log_16 : decode cX11_log 16 = .ok (.getfield 26, 3) := by decide +kernel
theorem dX11_log_19 : decode cX11_log 19 = .ok (.invokevirtual 278, 3) := by decide +kernel
theorem dX11_log_22 : decode cX11_log 22 = .ok (.ireturn, 1) := by decide +kernel
theorem dX11_as_0 : decode cX11_as 0 = .ok (.aload_n 0, 1) := by decide +kernel
theorem dX11_as_1 : decode cX11_as 1 = .ok (.iconst 0, 1) := by decide +kernel
theorem dX11_as_2 : decode cX11_as 2 = .ok (.putfield 51, 3) := by decide +kernel
theorem dX11_as_5 : decode cX11_as 5 = .ok (.aload_n 0, 1) := by decide +kernel
theorem dX11_as_6 : decode cX11_as 6 = .ok (.iload_n 1, 1) := by decide +kernel
theorem dX11_as_7 : decode cX11_as 7 = .ok (.invokevirtual 142, 3) := by decide +kernel
theorem dX11_as_10 : decode cX11_as 10 = .ok (.astore_n 3, 1) := by decide +kernel
theorem dX11_as_11 : decode cX11_as 11 = .ok (.aload_n 3, 1) := by decide +kernel
theorem dX11_as_12 : decode cX11_as 12 = .ok (.ifnonnull 5, 3) := by decide +kernel
theorem dX11_as_15 : decode cX11_as 15 = .ok (.iconst (-1), 1) := by decide +kernel
theorem dX11_as_16 : decode cX11_as 16 = .ok (.ireturn, 1) := by decide +kernel
theorem dX11_as_17 : decode cX11_as 17 = .ok (.iload_n 2, 1) := by decide +kernel
theorem dX11_as_18 : decode cX11_as 18 = .ok (.ifCond .lt 8, 3) := by decide +kernel
theorem dX11_as_21 : decode cX11_as 21 = .ok (.iload_n 2, 1) := by decide +kernel
theorem dX11_as_22 : decode cX11_as 22 = .ok (.iconst 3, 1) := by decide +kernel
theorem dX11_as_23 : decode cX11_as 23 = .ok (.if_icmp .lt 6, 3) := by decide +kernel
theorem dX11_as_26 : decode cX11_as 26 = .ok (.bipush (-2), 2) := by decide +kernel
theorem dX11_as_28 : decode cX11_as 28 = .ok (.ireturn, 1) := by decide +kernel
theorem dX11_as_29 : decode cX11_as 29 = .ok (.aload_n 3, 1) := by decide +kernel
theorem dX11_as_30 : decode cX11_as 30 = .ok (.invokevirtual 146, 3) := by decide +kernel
theorem dX11_as_33 : decode cX11_as 33 = .ok (.iload_n 2, 1) := by decide +kernel
theorem dX11_as_34 : decode cX11_as 34 = .ok (.if_icmp .ge 11, 3) := by decide +kernel
theorem dX11_as_37 : decode cX11_as 37 = .ok (.aload_n 0, 1) := by decide +kernel
theorem dX11_as_38 : decode cX11_as 38 = .ok (.iconst 2, 1) := by decide +kernel
theorem dX11_as_39 : decode cX11_as 39 = .ok (.invokevirtual 62, 3) := by decide +kernel
theorem dX11_as_42 : decode cX11_as 42 = .ok (.goto 4, 3) := by decide +kernel
theorem dX11_as_45 : decode cX11_as 45 = .ok (.iconst 1, 1) := by decide +kernel
theorem dX11_as_46 : decode cX11_as 46 = .ok (.ireturn, 1) := by decide +kernel
theorem dX11_trace_0 : decode cX11_trace 0 = .ok (.aload_n 0, 1) := by decide +kernel
theorem dX11_trace_1 : decode cX11_trace 1 = .ok (.getfield 26, 3) := by decide +kernel
theorem dX11_trace_4 : decode cX11_trace 4 = .ok (.getfield 281, 3) := by decide +kernel
theorem dX11_trace_7 : decode cX11_trace 7 = .ok (.ireturn, 1) := by decide +kernel
theorem dX11_fault_0 : decode cX11_fault 0 = .ok (.aload_n 0, 1) := by decide +kernel
theorem dX11_fault_1 : decode cX11_fault 1 = .ok (.getfield 51, 3) := by decide +kernel
theorem dX11_fault_4 : decode cX11_fault 4 = .ok (.ireturn, 1) := by decide +kernel
theorem dX11_many_0 : decode cX11_many 0 = .ok (.iload_n 1, 1) := by decide +kernel
theorem dX11_many_1 : decode cX11_many 1 = .ok (.tableswitch 71 0 3 #[31, 39, 44, 52], 31) := by decide +kernel
theorem dX11_many_32 : decode cX11_many 32 = .ok (.aload_n 0, 1) := by decide +kernel
theorem dX11_many_33 : decode cX11_many 33 = .ok (.getfield 99, 3) := by decide +kernel
theorem dX11_many_36 : decode cX11_many 36 = .ok (.invokestatic 214, 3) := by decide +kernel
theorem dX11_many_39 : decode cX11_many 39 = .ok (.ireturn, 1) := by decide +kernel
theorem dX11_many_40 : decode cX11_many 40 = .ok (.aload_n 0, 1) := by decide +kernel
theorem dX11_many_41 : decode cX11_many 41 = .ok (.getfield 128, 3) := by decide +kernel
theorem dX11_many_44 : decode cX11_many 44 = .ok (.ireturn, 1) := by decide +kernel
theorem dX11_many_45 : decode cX11_many 45 = .ok (.aload_n 0, 1) := by decide +kernel
theorem dX11_many_46 : decode cX11_many 46 = .ok (.getfield 99, 3) := by decide +kernel
theorem dX11_many_49 : decode cX11_many 49 = .ok (.invokestatic 284, 3) := by decide +kernel
theorem dX11_many_52 : decode cX11_many 52 = .ok (.ireturn, 1) := by decide +kernel
theorem dX11_many_53 : decode cX11_many 53 = .ok (.aload_n 0, 1) := by decide +kernel
theorem dX11_many_54 : decode cX11_many 54 = .ok (.getfield 110, 3) := by decide +kernel
theorem dX11_many_57 : decode cX11_many 57 = .ok (.invokestatic 220, 3) := by decide +kernel
theorem dX11_many_60 : decode cX11_many 60 = .ok (.invokestatic 287, 3) := by decide +kernel
theorem dX11_many_63 : decode cX11_many 63 = .ok (.aload_n 0, 1) := by decide +kernel
theorem dX11_many_64 : decode cX11_many 64 = .ok (.getfield 110, 3) := by decide +kernel
theorem dX11_many_67 : decode cX11_many 67 = .ok (.invokestatic 214, 3) := by decide +kernel
theorem dX11_many_70 : decode cX11_many 70 = .ok (.isub, 1) := by decide +kernel
theorem dX11_many_71 : decode cX11_many 71 = .ok (.ireturn, 1) := by decide +kernel
theorem dX11_many_72 : decode cX11_many 72 = .ok (.bipush (-2), 2) := by decide +kernel
theorem dX11_many_74 : decode cX11_many 74 = .ok (.ireturn, 1) := by decide +kernel
theorem dX11_isSheet_0 : decode cX11_isSheet 0 = .ok (.iload_n 1, 1) := by decide +kernel
theorem dX11_isSheet_1 : decode cX11_isSheet 1 = .ok (.ifCond .lt 12, 3) := by decide +kernel
theorem dX11_isSheet_4 : decode cX11_isSheet 4 = .ok (.iload_n 1, 1) := by decide +kernel
theorem dX11_isSheet_5 : decode cX11_isSheet 5 = .ok (.iconst 4, 1) := by decide +kernel
theorem dX11_isSheet_6 : decode cX11_isSheet 6 = .ok (.if_icmp .ge 7, 3) := by decide +kernel
theorem dX11_isSheet_9 : decode cX11_isSheet 9 = .ok (.iconst 1, 1) := by decide +kernel
theorem dX11_isSheet_10 : decode cX11_isSheet 10 = .ok (.goto 4, 3) := by decide +kernel
theorem dX11_isSheet_13 : decode cX11_isSheet 13 = .ok (.iconst 0, 1) := by decide +kernel
theorem dX11_isSheet_14 : decode cX11_isSheet 14 = .ok (.ireturn, 1) := by decide +kernel
theorem dX11_isLane_0 : decode cX11_isLane 0 = .ok (.iload_n 1, 1) := by decide +kernel
theorem dX11_isLane_1 : decode cX11_isLane 1 = .ok (.ifCond .lt 12, 3) := by decide +kernel
theorem dX11_isLane_4 : decode cX11_isLane 4 = .ok (.iload_n 1, 1) := by decide +kernel
theorem dX11_isLane_5 : decode cX11_isLane 5 = .ok (.iconst 3, 1) := by decide +kernel
theorem dX11_isLane_6 : decode cX11_isLane 6 = .ok (.if_icmp .ge 7, 3) := by decide +kernel
theorem dX11_isLane_9 : decode cX11_isLane 9 = .ok (.iconst 1, 1) := by decide +kernel
theorem dX11_isLane_10 : decode cX11_isLane 10 = .ok (.goto 4, 3) := by decide +kernel
theorem dX11_isLane_13 : decode cX11_isLane 13 = .ok (.iconst 0, 1) := by decide +kernel
theorem dX11_isLane_14 : decode cX11_isLane 14 = .ok (.ireturn, 1) := by decide +kernel
theorem dX11_isRule_0 : decode cX11_isRule 0 = .ok (.iload_n 1, 1) := by decide +kernel
theorem dX11_isRule_1 : decode cX11_isRule 1 = .ok (.ifCond .lt 12, 3) := by decide +kernel
theorem dX11_isRule_4 : decode cX11_isRule 4 = .ok (.iload_n 1, 1) := by decide +kernel
theorem dX11_isRule_5 : decode cX11_isRule 5 = .ok (.iconst 4, 1) := by decide +kernel
theorem dX11_isRule_6 : decode cX11_isRule 6 = .ok (.if_icmp .ge 7, 3) := by decide +kernel
theorem dX11_isRule_9 : decode cX11_isRule 9 = .ok (.iconst 1, 1) := by decide +kernel
theorem dX11_isRule_10 : decode cX11_isRule 10 = .ok (.goto 4, 3) := by decide +kernel
theorem dX11_isRule_13 : decode cX11_isRule 13 = .ok (.iconst 0, 1) := by decide +kernel
theorem dX11_isRule_14 : decode cX11_isRule 14 = .ok (.ireturn, 1) := by decide +kernel
theorem dX11_isPerson_0 : decode cX11_isPerson 0 = .ok (.iload_n 1, 1) := by decide +kernel
theorem dX11_isPerson_1 : decode cX11_isPerson 1 = .ok (.ifCond .lt 18, 3) := by decide +kernel
theorem dX11_isPerson_4 : decode cX11_isPerson 4 = .ok (.iload_n 1, 1) := by decide +kernel
theorem dX11_isPerson_5 : decode cX11_isPerson 5 = .ok (.aload_n 0, 1) := by decide +kernel
theorem dX11_isPerson_6 : decode cX11_isPerson 6 = .ok (.getfield 99, 3) := by decide +kernel
theorem dX11_isPerson_9 : decode cX11_isPerson 9 = .ok (.invokestatic 214, 3) := by decide +kernel
theorem dX11_isPerson_12 : decode cX11_isPerson 12 = .ok (.if_icmp .ge 7, 3) := by decide +kernel
theorem dX11_isPerson_15 : decode cX11_isPerson 15 = .ok (.iconst 1, 1) := by decide +kernel
theorem dX11_isPerson_16 : decode cX11_isPerson 16 = .ok (.goto 4, 3) := by decide +kernel
theorem dX11_isPerson_19 : decode cX11_isPerson 19 = .ok (.iconst 0, 1) := by decide +kernel
theorem dX11_isPerson_20 : decode cX11_isPerson 20 = .ok (.ireturn, 1) := by decide +kernel
theorem dX11_isEither_0 : decode cX11_isEither 0 = .ok (.iload_n 1, 1) := by decide +kernel
theorem dX11_isEither_1 : decode cX11_isEither 1 = .ok (.ifCond .eq 8, 3) := by decide +kernel
theorem dX11_isEither_4 : decode cX11_isEither 4 = .ok (.iload_n 1, 1) := by decide +kernel
theorem dX11_isEither_5 : decode cX11_isEither 5 = .ok (.iconst 1, 1) := by decide +kernel
theorem dX11_isEither_6 : decode cX11_isEither 6 = .ok (.if_icmp .ne 7, 3) := by decide +kernel
theorem dX11_isEither_9 : decode cX11_isEither 9 = .ok (.iconst 1, 1) := by decide +kernel
theorem dX11_isEither_10 : decode cX11_isEither 10 = .ok (.goto 4, 3) := by decide +kernel
theorem dX11_isEither_13 : decode cX11_isEither 13 = .ok (.iconst 0, 1) := by decide +kernel
theorem dX11_isEither_14 : decode cX11_isEither 14 = .ok (.ireturn, 1) := by decide +kernel
theorem dX11_isPlaceOfNumber_0 : decode cX11_isPlaceOfNumber 0 = .ok (.iload_n 1, 1) := by decide +kernel
theorem dX11_isPlaceOfNumber_1 : decode cX11_isPlaceOfNumber 1 = .ok (.iconst (-1), 1) := by decide +kernel
theorem dX11_isPlaceOfNumber_2 : decode cX11_isPlaceOfNumber 2 = .ok (.if_icmp .lt 13, 3) := by decide +kernel
theorem dX11_isPlaceOfNumber_5 : decode cX11_isPlaceOfNumber 5 = .ok (.iload_n 1, 1) := by decide +kernel
theorem dX11_isPlaceOfNumber_6 : decode cX11_isPlaceOfNumber 6 = .ok (.bipush 12, 2) := by decide +kernel
theorem dX11_isPlaceOfNumber_8 : decode cX11_isPlaceOfNumber 8 = .ok (.if_icmp .ge 7, 3) := by decide +kernel
theorem dX11_isPlaceOfNumber_11 : decode cX11_isPlaceOfNumber 11 = .ok (.iconst 1, 1) := by decide +kernel
theorem dX11_isPlaceOfNumber_12 : decode cX11_isPlaceOfNumber 12 = .ok (.goto 4, 3) := by decide +kernel
theorem dX11_isPlaceOfNumber_15 : decode cX11_isPlaceOfNumber 15 = .ok (.iconst 0, 1) := by decide +kernel
theorem dX11_isPlaceOfNumber_16 : decode cX11_isPlaceOfNumber 16 = .ok (.ireturn, 1) := by decide +kernel
theorem dX11_noPersons_0 : decode cX11_noPersons 0 = .ok (.aload_n 0, 1) := by decide +kernel
theorem dX11_noPersons_1 : decode cX11_noPersons 1 = .ok (.getfield 99, 3) := by decide +kernel
theorem dX11_noPersons_4 : decode cX11_noPersons 4 = .ok (.invokestatic 214, 3) := by decide +kernel
theorem dX11_noPersons_7 : decode cX11_noPersons 7 = .ok (.ifCond .ne 7, 3) := by decide +kernel
theorem dX11_noPersons_10 : decode cX11_noPersons 10 = .ok (.iconst 1, 1) := by decide +kernel
theorem dX11_noPersons_11 : decode cX11_noPersons 11 = .ok (.goto 4, 3) := by decide +kernel
theorem dX11_noPersons_14 : decode cX11_noPersons 14 = .ok (.iconst 0, 1) := by decide +kernel
theorem dX11_noPersons_15 : decode cX11_noPersons 15 = .ok (.ireturn, 1) := by decide +kernel
theorem dX11_callAt_0 : decode cX11_callAt 0 = .ok (.iload_n 1, 1) := by decide +kernel
theorem dX11_callAt_1 : decode cX11_callAt 1 = .ok (.ifCond .lt 26, 3) := by decide +kernel
theorem dX11_callAt_4 : decode cX11_callAt 4 = .ok (.iload_n 1, 1) := by decide +kernel
theorem dX11_callAt_5 : decode cX11_callAt 5 = .ok (.aload_n 0, 1) := by decide +kernel
theorem dX11_callAt_6 : decode cX11_callAt 6 = .ok (.getfield 128, 3) := by decide +kernel
theorem dX11_callAt_9 : decode cX11_callAt 9 = .ok (.if_icmp .ge 18, 3) := by decide +kernel
theorem dX11_callAt_12 : decode cX11_callAt 12 = .ok (.iload_n 1, 1) := by decide +kernel
theorem dX11_callAt_13 : decode cX11_callAt 13 = .ok (.bipush 12, 2) := by decide +kernel
theorem dX11_callAt_15 : decode cX11_callAt 15 = .ok (.if_icmp .ge 12, 3) := by decide +kernel
theorem dX11_callAt_18 : decode cX11_callAt 18 = .ok (.aload_n 0, 1) := by decide +kernel
theorem dX11_callAt_19 : decode cX11_callAt 19 = .ok (.getfield 19, 3) := by decide +kernel
theorem dX11_callAt_22 : decode cX11_callAt 22 = .ok (.iload_n 1, 1) := by decide +kernel
theorem dX11_callAt_23 : decode cX11_callAt 23 = .ok (.aaload, 1) := by decide +kernel
theorem dX11_callAt_24 : decode cX11_callAt 24 = .ok (.goto 4, 3) := by decide +kernel
theorem dX11_callAt_27 : decode cX11_callAt 27 = .ok (.aconst_null, 1) := by decide +kernel
theorem dX11_callAt_28 : decode cX11_callAt 28 = .ok (.areturn, 1) := by decide +kernel
theorem dX11_faulted_0 : decode cX11_faulted 0 = .ok (.aload_n 0, 1) := by decide +kernel
theorem dX11_faulted_1 : decode cX11_faulted 1 = .ok (.iload_n 1, 1) := by decide +kernel
theorem dX11_faulted_2 : decode cX11_faulted 2 = .ok (.putfield 51, 3) := by decide +kernel
theorem dX11_faulted_5 : decode cX11_faulted 5 = .ok (.bipush (-10), 2) := by decide +kernel
theorem dX11_faulted_7 : decode cX11_faulted 7 = .ok (.iload_n 1, 1) := by decide +kernel
theorem dX11_faulted_8 : decode cX11_faulted 8 = .ok (.isub, 1) := by decide +kernel
theorem dX11_faulted_9 : decode cX11_faulted 9 = .ok (.ireturn, 1) := by decide +kernel
theorem dX11_begin_0 : decode cX11_begin 0 = .ok (.aload_n 0, 1) := by decide +kernel
theorem dX11_begin_1 : decode cX11_begin 1 = .ok (.lload_n 1, 1) := by decide +kernel
theorem dX11_begin_2 : decode cX11_begin 2 = .ok (.putfield 110, 3) := by decide +kernel
theorem dX11_begin_5 : decode cX11_begin 5 = .ok (.aload_n 0, 1) := by decide +kernel
theorem dX11_begin_6 : decode cX11_begin 6 = .ok (.iconst 0, 1) := by decide +kernel
theorem dX11_begin_7 : decode cX11_begin 7 = .ok (.putfield 128, 3) := by decide +kernel
theorem dX11_begin_10 : decode cX11_begin 10 = .ok (.aload_n 0, 1) := by decide +kernel
theorem dX11_begin_11 : decode cX11_begin 11 = .ok (.iconst 0, 1) := by decide +kernel
theorem dX11_begin_12 : decode cX11_begin 12 = .ok (.putfield 240, 3) := by decide +kernel
theorem dX11_begin_15 : decode cX11_begin 15 = .ok (.aload_n 0, 1) := by decide +kernel
theorem dX11_begin_16 : decode cX11_begin 16 = .ok (.lload_n 1, 1) := by decide +kernel
theorem dX11_begin_17 : decode cX11_begin 17 = .ok (.invokevirtual 139, 3) := by decide +kernel
theorem dX11_begin_20 : decode cX11_begin 20 = .ok (.return_, 1) := by decide +kernel
theorem dX11_moveTo_0 : decode cX11_moveTo 0 = .ok (.aload_n 0, 1) := by decide +kernel
theorem dX11_moveTo_1 : decode cX11_moveTo 1 = .ok (.lload_n 1, 1) := by decide +kernel
theorem dX11_moveTo_2 : decode cX11_moveTo 2 = .ok (.putfield 99, 3) := by decide +kernel
theorem dX11_moveTo_5 : decode cX11_moveTo 5 = .ok (.aload_n 0, 1) := by decide +kernel
theorem dX11_moveTo_6 : decode cX11_moveTo 6 = .ok (.getfield 40, 3) := by decide +kernel
theorem dX11_moveTo_9 : decode cX11_moveTo 9 = .ok (.invokevirtual 292, 3) := by decide +kernel
theorem dX11_moveTo_12 : decode cX11_moveTo 12 = .ok (.return_, 1) := by decide +kernel
theorem dX11_newCall_0 : decode cX11_newCall 0 = .ok (.aload_n 0, 1) := by decide +kernel
theorem dX11_newCall_1 : decode cX11_newCall 1 = .ok (.getfield 99, 3) := by decide +kernel
theorem dX11_newCall_4 : decode cX11_newCall 4 = .ok (.iload_n 2, 1) := by decide +kernel
theorem dX11_newCall_5 : decode cX11_newCall 5 = .ok (.iload_n 3, 1) := by decide +kernel
theorem dX11_newCall_6 : decode cX11_newCall 6 = .ok (.invokestatic 135, 3) := by decide +kernel
theorem dX11_newCall_9 : decode cX11_newCall 9 = .ok (.lstore 4, 2) := by decide +kernel
theorem dX11_newCall_11 : decode cX11_newCall 11 = .ok (.aload_n 0, 1) := by decide +kernel
theorem dX11_newCall_12 : decode cX11_newCall 12 = .ok (.getfield 99, 3) := by decide +kernel
theorem dX11_newCall_15 : decode cX11_newCall 15 = .ok (.iload_n 2, 1) := by decide +kernel
theorem dX11_newCall_16 : decode cX11_newCall 16 = .ok (.invokestatic 103, 3) := by decide +kernel
theorem dX11_newCall_19 : decode cX11_newCall 19 = .ok (.aload_n 0, 1) := by decide +kernel
theorem dX11_newCall_20 : decode cX11_newCall 20 = .ok (.getfield 99, 3) := by decide +kernel
theorem dX11_newCall_23 : decode cX11_newCall 23 = .ok (.iload_n 3, 1) := by decide +kernel
theorem dX11_newCall_24 : decode cX11_newCall 24 = .ok (.invokestatic 103, 3) := by decide +kernel
theorem dX11_newCall_27 : decode cX11_newCall 27 = .ok (.if_icmp .ne 20, 3) := by decide +kernel
theorem dX11_newCall_30 : decode cX11_newCall 30 = .ok (.new 17, 3) := by decide +kernel
theorem dX11_newCall_33 : decode cX11_newCall 33 = .ok (.dup, 1) := by decide +kernel
theorem dX11_newCall_34 : decode cX11_newCall 34 = .ok (.iload_n 1, 1) := by decide +kernel
theorem dX11_newCall_35 : decode cX11_newCall 35 = .ok (.iload_n 2, 1) := by decide +kernel
theorem dX11_newCall_36 : decode cX11_newCall 36 = .ok (.iload_n 3, 1) := by decide +kernel
theorem dX11_newCall_37 : decode cX11_newCall 37 = .ok (.aload_n 0, 1) := by decide +kernel
theorem dX11_newCall_38 : decode cX11_newCall 38 = .ok (.getfield 99, 3) := by decide +kernel
theorem dX11_newCall_41 : decode cX11_newCall 41 = .ok (.lload 4, 2) := by decide +kernel
theorem dX11_newCall_43 : decode cX11_newCall 43 = .ok (.invokespecial 295, 3) := by decide +kernel
theorem dX11_newCall_46 : decode cX11_newCall 46 = .ok (.areturn, 1) := by decide +kernel
theorem dX11_newCall_47 : decode cX11_newCall 47 = .ok (.lload 4, 2) := by decide +kernel
theorem dX11_newCall_49 : decode cX11_newCall 49 = .ok (.iload_n 2, 1) := by decide +kernel
theorem dX11_newCall_50 : decode cX11_newCall 50 = .ok (.invokestatic 113, 3) := by decide +kernel
theorem dX11_newCall_53 : decode cX11_newCall 53 = .ok (.ifCond .eq 22, 3) := by decide +kernel
theorem dX11_newCall_56 : decode cX11_newCall 56 = .ok (.new 298, 3) := by decide +kernel
theorem dX11_newCall_59 : decode cX11_newCall 59 = .ok (.dup, 1) := by decide +kernel
theorem dX11_newCall_60 : decode cX11_newCall 60 = .ok (.iload_n 1, 1) := by decide +kernel
theorem dX11_newCall_61 : decode cX11_newCall 61 = .ok (.iload_n 2, 1) := by decide +kernel
theorem dX11_newCall_62 : decode cX11_newCall 62 = .ok (.iload_n 3, 1) := by decide +kernel
theorem dX11_newCall_63 : decode cX11_newCall 63 = .ok (.aload_n 0, 1) := by decide +kernel
theorem dX11_newCall_64 : decode cX11_newCall 64 = .ok (.getfield 99, 3) := by decide +kernel
theorem dX11_newCall_67 : decode cX11_newCall 67 = .ok (.lload 4, 2) := by decide +kernel
theorem dX11_newCall_69 : decode cX11_newCall 69 = .ok (.invokespecial 300, 3) := by decide +kernel
theorem dX11_newCall_72 : decode cX11_newCall 72 = .ok (.goto 19, 3) := by decide +kernel
theorem dX11_newCall_75 : decode cX11_newCall 75 = .ok (.new 301, 3) := by decide +kernel
theorem dX11_newCall_78 : decode cX11_newCall 78 = .ok (.dup, 1) := by decide +kernel
theorem dX11_newCall_79 : decode cX11_newCall 79 = .ok (.iload_n 1, 1) := by decide +kernel
theorem dX11_newCall_80 : decode cX11_newCall 80 = .ok (.iload_n 2, 1) := by decide +kernel
theorem dX11_newCall_81 : decode cX11_newCall 81 = .ok (.iload_n 3, 1) := by decide +kernel
theorem dX11_newCall_82 : decode cX11_newCall 82 = .ok (.aload_n 0, 1) := by decide +kernel
theorem dX11_newCall_83 : decode cX11_newCall 83 = .ok (.getfield 99, 3) := by decide +kernel
theorem dX11_newCall_86 : decode cX11_newCall 86 = .ok (.lload 4, 2) := by decide +kernel
theorem dX11_newCall_88 : decode cX11_newCall 88 = .ok (.invokespecial 303, 3) := by decide +kernel
theorem dX11_newCall_91 : decode cX11_newCall 91 = .ok (.areturn, 1) := by decide +kernel
theorem dX11_surelyHad_0 : decode cX11_surelyHad 0 = .ok (.aload_n 0, 1) := by decide +kernel
theorem dX11_surelyHad_1 : decode cX11_surelyHad 1 = .ok (.getfield 40, 3) := by decide +kernel
theorem dX11_surelyHad_4 : decode cX11_surelyHad 4 = .ok (.iload_n 1, 1) := by decide +kernel
theorem dX11_surelyHad_5 : decode cX11_surelyHad 5 = .ok (.aload_n 0, 1) := by decide +kernel
theorem dX11_surelyHad_6 : decode cX11_surelyHad 6 = .ok (.getfield 110, 3) := by decide +kernel
theorem dX11_surelyHad_9 : decode cX11_surelyHad 9 = .ok (.aload_n 0, 1) := by decide +kernel
theorem dX11_surelyHad_10 : decode cX11_surelyHad 10 = .ok (.getfield 19, 3) := by decide +kernel
theorem dX11_surelyHad_13 : decode cX11_surelyHad 13 = .ok (.aload_n 0, 1) := by decide +kernel
theorem dX11_surelyHad_14 : decode cX11_surelyHad 14 = .ok (.getfield 128, 3) := by decide +kernel
theorem dX11_surelyHad_17 : decode cX11_surelyHad 17 = .ok (.invokevirtual 304, 3) := by decide +kernel
theorem dX11_surelyHad_20 : decode cX11_surelyHad 20 = .ok (.iload_n 2, 1) := by decide +kernel
theorem dX11_surelyHad_21 : decode cX11_surelyHad 21 = .ok (.invokestatic 307, 3) := by decide +kernel
theorem dX11_surelyHad_24 : decode cX11_surelyHad 24 = .ok (.ireturn, 1) := by decide +kernel
theorem dX11_findMending_0 : decode cX11_findMending 0 = .ok (.aload_n 0, 1) := by decide +kernel
theorem dX11_findMending_1 : decode cX11_findMending 1 = .ok (.getfield 110, 3) := by decide +kernel
theorem dX11_findMending_4 : decode cX11_findMending 4 = .ok (.invokestatic 214, 3) := by decide +kernel
theorem dX11_findMending_7 : decode cX11_findMending 7 = .ok (.istore_n 2, 1) := by decide +kernel
theorem dX11_findMending_8 : decode cX11_findMending 8 = .ok (.aload_n 0, 1) := by decide +kernel
theorem dX11_findMending_9 : decode cX11_findMending 9 = .ok (.getfield 110, 3) := by decide +kernel
theorem dX11_findMending_12 : decode cX11_findMending 12 = .ok (.invokestatic 220, 3) := by decide +kernel
theorem dX11_findMending_15 : decode cX11_findMending 15 = .ok (.istore_n 3, 1) := by decide +kernel
theorem dX11_findMending_16 : decode cX11_findMending 16 = .ok (.iconst 0, 1) := by decide +kernel
theorem dX11_findMending_17 : decode cX11_findMending 17 = .ok (.istore 4, 2) := by decide +kernel
theorem dX11_findMending_19 : decode cX11_findMending 19 = .ok (.iconst 0, 1) := by decide +kernel
theorem dX11_findMending_20 : decode cX11_findMending 20 = .ok (.istore 5, 2) := by decide +kernel
theorem dX11_findMending_22 : decode cX11_findMending 22 = .ok (.iload 5, 2) := by decide +kernel
theorem dX11_findMending_24 : decode cX11_findMending 24 = .ok (.iload_n 2, 1) := by decide +kernel
theorem dX11_findMending_25 : decode cX11_findMending 25 = .ok (.if_icmp .ge 72, 3) := by decide +kernel
theorem dX11_findMending_28 : decode cX11_findMending 28 = .ok (.iconst 0, 1) := by decide +kernel
theorem dX11_findMending_29 : decode cX11_findMending 29 = .ok (.istore 6, 2) := by decide +kernel
theorem dX11_findMending_31 : decode cX11_findMending 31 = .ok (.iload 6, 2) := by decide +kernel
theorem dX11_findMending_33 : decode cX11_findMending 33 = .ok (.iload_n 2, 1) := by decide +kernel
theorem dX11_findMending_34 : decode cX11_findMending 34 = .ok (.if_icmp .ge 57, 3) := by decide +kernel
theorem dX11_findMending_37 : decode cX11_findMending 37 = .ok (.iconst 1, 1) := by decide +kernel
theorem dX11_findMending_38 : decode cX11_findMending 38 = .ok (.iload 5, 2) := by decide +kernel
theorem dX11_findMending_40 : decode cX11_findMending 40 = .ok (.iload 6, 2) := by decide +kernel
theorem dX11_findMending_42 : decode cX11_findMending 42 = .ok (.invokestatic 310, 3) := by decide +kernel
theorem dX11_findMending_45 : decode cX11_findMending 45 = .ok (.ishl, 1) := by decide +kernel
theorem dX11_findMending_46 : decode cX11_findMending 46 = .ok (.istore 7, 2) := by decide +kernel
theorem dX11_findMending_48 : decode cX11_findMending 48 = .ok (.iload_n 3, 1) := by decide +kernel
theorem dX11_findMending_49 : decode cX11_findMending 49 = .ok (.iload 7, 2) := by decide +kernel
theorem dX11_findMending_51 : decode cX11_findMending 51 = .ok (.iand, 1) := by decide +kernel
theorem dX11_findMending_52 : decode cX11_findMending 52 = .ok (.ifCond .eq 6, 3) := by decide +kernel
theorem dX11_findMending_55 : decode cX11_findMending 55 = .ok (.goto 30, 3) := by decide +kernel
theorem dX11_findMending_58 : decode cX11_findMending 58 = .ok (.aload_n 0, 1) := by decide +kernel
theorem dX11_findMending_59 : decode cX11_findMending 59 = .ok (.getfield 33, 3) := by decide +kernel
theorem dX11_findMending_62 : decode cX11_findMending 62 = .ok (.iload_n 2, 1) := by decide +kernel
theorem dX11_findMending_63 : decode cX11_findMending 63 = .ok (.iload_n 3, 1) := by decide +kernel
theorem dX11_findMending_64 : decode cX11_findMending 64 = .ok (.iload 7, 2) := by decide +kernel
theorem dX11_findMending_66 : decode cX11_findMending 66 = .ok (.ior, 1) := by decide +kernel
theorem dX11_findMending_67 : decode cX11_findMending 67 = .ok (.invokestatic 86, 3) := by decide +kernel
theorem dX11_findMending_70 : decode cX11_findMending 70 = .ok (.iload_n 1, 1) := by decide +kernel
theorem dX11_findMending_71 : decode cX11_findMending 71 = .ok (.invokevirtual 188, 3) := by decide +kernel
theorem dX11_findMending_74 : decode cX11_findMending 74 = .ok (.iconst 2, 1) := by decide +kernel
theorem dX11_findMending_75 : decode cX11_findMending 75 = .ok (.if_icmp .ne 10, 3) := by decide +kernel
theorem dX11_findMending_78 : decode cX11_findMending 78 = .ok (.iload 4, 2) := by decide +kernel
theorem dX11_findMending_80 : decode cX11_findMending 80 = .ok (.iload 7, 2) := by decide +kernel
theorem dX11_findMending_82 : decode cX11_findMending 82 = .ok (.ior, 1) := by decide +kernel
theorem dX11_findMending_83 : decode cX11_findMending 83 = .ok (.istore 4, 2) := by decide +kernel
theorem dX11_findMending_85 : decode cX11_findMending 85 = .ok (.iinc 6 1, 3) := by decide +kernel
theorem dX11_findMending_88 : decode cX11_findMending 88 = .ok (.goto (-57), 3) := by decide +kernel
theorem dX11_findMending_91 : decode cX11_findMending 91 = .ok (.iinc 5 1, 3) := by decide +kernel
theorem dX11_findMending_94 : decode cX11_findMending 94 = .ok (.goto (-72), 3) := by decide +kernel
theorem dX11_findMending_97 : decode cX11_findMending 97 = .ok (.iload 4, 2) := by decide +kernel
theorem dX11_findMending_99 : decode cX11_findMending 99 = .ok (.ireturn, 1) := by decide +kernel
theorem dX11_countNets_0 : decode cX11_countNets 0 = .ok (.iconst 1, 1) := by decide +kernel
theorem dX11_countNets_1 : decode cX11_countNets 1 = .ok (.iload_n 1, 1) := by decide +kernel
theorem dX11_countNets_2 : decode cX11_countNets 2 = .ok (.iload_n 1, 1) := by decide +kernel
theorem dX11_countNets_3 : decode cX11_countNets 3 = .ok (.iconst 1, 1) := by decide +kernel
theorem dX11_countNets_4 : decode cX11_countNets 4 = .ok (.isub, 1) := by decide +kernel
theorem dX11_countNets_5 : decode cX11_countNets 5 = .ok (.imul, 1) := by decide +kernel
theorem dX11_countNets_6 : decode cX11_countNets 6 = .ok (.ishl, 1) := by decide +kernel
theorem dX11_countNets_7 : decode cX11_countNets 7 = .ok (.istore 4, 2) := by decide +kernel
theorem dX11_countNets_9 : decode cX11_countNets 9 = .ok (.iconst 0, 1) := by decide +kernel
theorem dX11_countNets_10 : decode cX11_countNets 10 = .ok (.istore 5, 2) := by decide +kernel
theorem dX11_countNets_12 : decode cX11_countNets 12 = .ok (.iload 5, 2) := by decide +kernel
theorem dX11_countNets_14 : decode cX11_countNets 14 = .ok (.iload 4, 2) := by decide +kernel
theorem dX11_countNets_16 : decode cX11_countNets 16 = .ok (.if_icmp .ge 66, 3) := by decide +kernel
theorem dX11_countNets_19 : decode cX11_countNets 19 = .ok (.iload_n 1, 1) := by decide +kernel
theorem dX11_countNets_20 : decode cX11_countNets 20 = .ok (.iload 5, 2) := by decide +kernel
theorem dX11_countNets_22 : decode cX11_countNets 22 = .ok (.invokestatic 313, 3) := by decide +kernel
theorem dX11_countNets_25 : decode cX11_countNets 25 = .ok (.istore 6, 2) := by decide +kernel
theorem dX11_countNets_27 : decode cX11_countNets 27 = .ok (.iload_n 1, 1) := by decide +kernel
theorem dX11_countNets_28 : decode cX11_countNets 28 = .ok (.iload 6, 2) := by decide +kernel
theorem dX11_countNets_30 : decode cX11_countNets 30 = .ok (.invokestatic 223, 3) := by decide +kernel
theorem dX11_countNets_33 : decode cX11_countNets 33 = .ok (.ifCond .ne 6, 3) := by decide +kernel
theorem dX11_countNets_36 : decode cX11_countNets 36 = .ok (.goto 40, 3) := by decide +kernel
theorem dX11_countNets_39 : decode cX11_countNets 39 = .ok (.aload_n 0, 1) := by decide +kernel
theorem dX11_countNets_40 : decode cX11_countNets 40 = .ok (.getfield 48, 3) := by decide +kernel
theorem dX11_countNets_43 : decode cX11_countNets 43 = .ok (.iload_n 3, 1) := by decide +kernel
theorem dX11_countNets_44 : decode cX11_countNets 44 = .ok (.iconst 3, 1) := by decide +kernel
theorem dX11_countNets_45 : decode cX11_countNets 45 = .ok (.iadd, 1) := by decide +kernel
theorem dX11_countNets_46 : decode cX11_countNets 46 = .ok (.dup2, 1) := by decide +kernel
theorem dX11_countNets_47 : decode cX11_countNets 47 = .ok (.iaload, 1) := by decide +kernel
theorem dX11_countNets_48 : decode cX11_countNets 48 = .ok (.iconst 1, 1) := by decide +kernel
theorem dX11_countNets_49 : decode cX11_countNets 49 = .ok (.iadd, 1) := by decide +kernel
theorem dX11_countNets_50 : decode cX11_countNets 50 = .ok (.iastore, 1) := by decide +kernel
theorem dX11_countNets_51 : decode cX11_countNets 51 = .ok (.aload_n 0, 1) := by decide +kernel
theorem dX11_countNets_52 : decode cX11_countNets 52 = .ok (.getfield 48, 3) := by decide +kernel
theorem dX11_countNets_55 : decode cX11_countNets 55 = .ok (.iload_n 3, 1) := by decide +kernel
theorem dX11_countNets_56 : decode cX11_countNets 56 = .ok (.aload_n 0, 1) := by decide +kernel
theorem dX11_countNets_57 : decode cX11_countNets 57 = .ok (.getfield 33, 3) := by decide +kernel
theorem dX11_countNets_60 : decode cX11_countNets 60 = .ok (.iload_n 1, 1) := by decide +kernel
theorem dX11_countNets_61 : decode cX11_countNets 61 = .ok (.iload 6, 2) := by decide +kernel
theorem dX11_countNets_63 : decode cX11_countNets 63 = .ok (.invokestatic 86, 3) := by decide +kernel
theorem dX11_countNets_66 : decode cX11_countNets 66 = .ok (.iload_n 2, 1) := by decide +kernel
theorem dX11_countNets_67 : decode cX11_countNets 67 = .ok (.invokevirtual 188, 3) := by decide +kernel
theorem dX11_countNets_70 : decode cX11_countNets 70 = .ok (.iadd, 1) := by decide +kernel
theorem dX11_countNets_71 : decode cX11_countNets 71 = .ok (.dup2, 1) := by decide +kernel
theorem dX11_countNets_72 : decode cX11_countNets 72 = .ok (.iaload, 1) := by decide +kernel
theorem dX11_countNets_73 : decode cX11_countNets 73 = .ok (.iconst 1, 1) := by decide +kernel
theorem dX11_countNets_74 : decode cX11_countNets 74 = .ok (.iadd, 1) := by decide +kernel
theorem dX11_countNets_75 : decode cX11_countNets 75 = .ok (.iastore, 1) := by decide +kernel
theorem dX11_countNets_76 : decode cX11_countNets 76 = .ok (.iinc 5 1, 3) := by decide +kernel
theorem dX11_countNets_79 : decode cX11_countNets 79 = .ok (.goto (-67), 3) := by decide +kernel
theorem dX11_countNets_82 : decode cX11_countNets 82 = .ok (.return_, 1) := by decide +kernel
theorem dX11_truth_0 : decode cX11_truth 0 = .ok (.iload_n 0, 1) := by decide +kernel
theorem dX11_truth_1 : decode cX11_truth 1 = .ok (.ifCond .eq 7, 3) := by decide +kernel
theorem dX11_truth_4 : decode cX11_truth 4 = .ok (.iconst 1, 1) := by decide +kernel
theorem dX11_truth_5 : decode cX11_truth 5 = .ok (.goto 4, 3) := by decide +kernel
theorem dX11_truth_8 : decode cX11_truth 8 = .ok (.iconst 0, 1) := by decide +kernel
theorem dX11_truth_9 : decode cX11_truth 9 = .ok (.ireturn, 1) := by decide +kernel
theorem dX11_contains_0 : decode cX11_contains 0 = .ok (.iload_n 0, 1) := by decide +kernel
theorem dX11_contains_1 : decode cX11_contains 1 = .ok (.iload_n 1, 1) := by decide +kernel
theorem dX11_contains_2 : decode cX11_contains 2 = .ok (.ishr, 1) := by decide +kernel
theorem dX11_contains_3 : decode cX11_contains 3 = .ok (.iconst 1, 1) := by decide +kernel
theorem dX11_contains_4 : decode cX11_contains 4 = .ok (.iand, 1) := by decide +kernel
theorem dX11_contains_5 : decode cX11_contains 5 = .ok (.iconst 1, 1) := by decide +kernel
theorem dX11_contains_6 : decode cX11_contains 6 = .ok (.if_icmp .ne 7, 3) := by decide +kernel
theorem dX11_contains_9 : decode cX11_contains 9 = .ok (.iconst 1, 1) := by decide +kernel
theorem dX11_contains_10 : decode cX11_contains 10 = .ok (.goto 4, 3) := by decide +kernel
theorem dX11_contains_13 : decode cX11_contains 13 = .ok (.iconst 0, 1) := by decide +kernel
theorem dX11_contains_14 : decode cX11_contains 14 = .ok (.ireturn, 1) := by decide +kernel
theorem dX11_pairOf_0 : decode cX11_pairOf 0 = .ok (.iconst 4, 1) := by decide +kernel
theorem dX11_pairOf_1 : decode cX11_pairOf 1 = .ok (.iload_n 0, 1) := by decide +kernel
theorem dX11_pairOf_2 : decode cX11_pairOf 2 = .ok (.imul, 1) := by decide +kernel
theorem dX11_pairOf_3 : decode cX11_pairOf 3 = .ok (.iload_n 1, 1) := by decide +kernel
theorem dX11_pairOf_4 : decode cX11_pairOf 4 = .ok (.iadd, 1) := by decide +kernel
theorem dX11_pairOf_5 : decode cX11_pairOf 5 = .ok (.ireturn, 1) := by decide +kernel
theorem dX11_ringerOf_0 : decode cX11_ringerOf 0 = .ok (.iload_n 0, 1) := by decide +kernel
theorem dX11_ringerOf_1 : decode cX11_ringerOf 1 = .ok (.iconst 2, 1) := by decide +kernel
theorem dX11_ringerOf_2 : decode cX11_ringerOf 2 = .ok (.ishr, 1) := by decide +kernel
theorem dX11_ringerOf_3 : decode cX11_ringerOf 3 = .ok (.ireturn, 1) := by decide +kernel
theorem dX11_rungOf_0 : decode cX11_rungOf 0 = .ok (.iload_n 0, 1) := by decide +kernel
theorem dX11_rungOf_1 : decode cX11_rungOf 1 = .ok (.iconst 3, 1) := by decide +kernel
theorem dX11_rungOf_2 : decode cX11_rungOf 2 = .ok (.iand, 1) := by decide +kernel
theorem dX11_rungOf_3 : decode cX11_rungOf 3 = .ok (.ireturn, 1) := by decide +kernel
theorem dX11_countOrPick_0 : decode cX11_countOrPick 0 = .ok (.iload_n 1, 1) := by decide +kernel
theorem dX11_countOrPick_1 : decode cX11_countOrPick 1 = .ok (.iconst (-1), 1) := by decide +kernel
theorem dX11_countOrPick_2 : decode cX11_countOrPick 2 = .ok (.if_icmp .ne 8, 3) := by decide +kernel
theorem dX11_countOrPick_5 : decode cX11_countOrPick 5 = .ok (.iload_n 0, 1) := by decide +kernel
theorem dX11_countOrPick_6 : decode cX11_countOrPick 6 = .ok (.invokestatic 287, 3) := by decide +kernel
theorem dX11_countOrPick_9 : decode cX11_countOrPick 9 = .ok (.ireturn, 1) := by decide +kernel
theorem dX11_countOrPick_10 : decode cX11_countOrPick 10 = .ok (.iconst 0, 1) := by decide +kernel
theorem dX11_countOrPick_11 : decode cX11_countOrPick 11 = .ok (.istore_n 2, 1) := by decide +kernel
theorem dX11_countOrPick_12 : decode cX11_countOrPick 12 = .ok (.iconst 0, 1) := by decide +kernel
theorem dX11_countOrPick_13 : decode cX11_countOrPick 13 = .ok (.istore_n 3, 1) := by decide +kernel
theorem dX11_countOrPick_14 : decode cX11_countOrPick 14 = .ok (.iload_n 3, 1) := by decide +kernel
theorem dX11_countOrPick_15 : decode cX11_countOrPick 15 = .ok (.bipush 16, 2) := by decide +kernel
theorem dX11_countOrPick_17 : decode cX11_countOrPick 17 = .ok (.if_icmp .ge 41, 3) := by decide +kernel
theorem dX11_countOrPick_20 : decode cX11_countOrPick 20 = .ok (.iload_n 0, 1) := by decide +kernel
theorem dX11_countOrPick_21 : decode cX11_countOrPick 21 = .ok (.iload_n 3, 1) := by decide +kernel
theorem dX11_countOrPick_22 : decode cX11_countOrPick 22 = .ok (.invokestatic 125, 3) := by decide +kernel
theorem dX11_countOrPick_25 : decode cX11_countOrPick 25 = .ok (.ifCond .ne 6, 3) := by decide +kernel
theorem dX11_countOrPick_28 : decode cX11_countOrPick 28 = .ok (.goto 24, 3) := by decide +kernel
theorem dX11_countOrPick_31 : decode cX11_countOrPick 31 = .ok (.iload_n 2, 1) := by decide +kernel
theorem dX11_countOrPick_32 : decode cX11_countOrPick 32 = .ok (.iload_n 1, 1) := by decide +kernel
theorem dX11_countOrPick_33 : decode cX11_countOrPick 33 = .ok (.if_icmp .ne 16, 3) := by decide +kernel
theorem dX11_countOrPick_36 : decode cX11_countOrPick 36 = .ok (.bipush 10, 2) := by decide +kernel
theorem dX11_countOrPick_38 : decode cX11_countOrPick 38 = .ok (.iload_n 3, 1) := by decide +kernel
theorem dX11_countOrPick_39 : decode cX11_countOrPick 39 = .ok (.invokestatic 200, 3) := by decide +kernel
theorem dX11_countOrPick_42 : decode cX11_countOrPick 42 = .ok (.imul, 1) := by decide +kernel
theorem dX11_countOrPick_43 : decode cX11_countOrPick 43 = .ok (.iload_n 3, 1) := by decide +kernel
theorem dX11_countOrPick_44 : decode cX11_countOrPick 44 = .ok (.invokestatic 203, 3) := by decide +kernel
theorem dX11_countOrPick_47 : decode cX11_countOrPick 47 = .ok (.iadd, 1) := by decide +kernel
theorem dX11_countOrPick_48 : decode cX11_countOrPick 48 = .ok (.ireturn, 1) := by decide +kernel
theorem dX11_countOrPick_49 : decode cX11_countOrPick 49 = .ok (.iinc 2 1, 3) := by decide +kernel
theorem dX11_countOrPick_52 : decode cX11_countOrPick 52 = .ok (.iinc 3 1, 3) := by decide +kernel
theorem dX11_countOrPick_55 : decode cX11_countOrPick 55 = .ok (.goto (-41), 3) := by decide +kernel
theorem dX11_countOrPick_58 : decode cX11_countOrPick 58 = .ok (.bipush (-9), 2) := by decide +kernel
theorem dX11_countOrPick_60 : decode cX11_countOrPick 60 = .ok (.ireturn, 1) := by decide +kernel
theorem dJ6_bitCount_0f7a4_0 : decode cJ6_bitCount_0f7a4 0 = .ok (.iload_n 0, 1) := by decide +kernel
theorem dJ6_bitCount_0f7a4_1 : decode cJ6_bitCount_0f7a4 1 = .ok (.iload_n 0, 1) := by decide +kernel
theorem dJ6_bitCount_0f7a4_2 : decode cJ6_bitCount_0f7a4 2 = .ok (.iconst 1, 1) := by decide +kernel
theorem dJ6_bitCount_0f7a4_3 : decode cJ6_bitCount_0f7a4 3 = .ok (.iushr, 1) := by decide +kernel
theorem dJ6_bitCount_0f7a4_4 : decode cJ6_bitCount_0f7a4 4 = .ok (.ldc_w 265, 3) := by decide +kernel
theorem dJ6_bitCount_0f7a4_7 : decode cJ6_bitCount_0f7a4 7 = .ok (.iand, 1) := by decide +kernel
theorem dJ6_bitCount_0f7a4_8 : decode cJ6_bitCount_0f7a4 8 = .ok (.isub, 1) := by decide +kernel
theorem dJ6_bitCount_0f7a4_9 : decode cJ6_bitCount_0f7a4 9 = .ok (.istore_n 0, 1) := by decide +kernel
theorem dJ6_bitCount_0f7a4_10 : decode cJ6_bitCount_0f7a4 10 = .ok (.iload_n 0, 1) := by decide +kernel
theorem dJ6_bitCount_0f7a4_11 : decode cJ6_bitCount_0f7a4 11 = .ok (.ldc_w 266, 3) := by decide +kernel
theorem dJ6_bitCount_0f7a4_14 : decode cJ6_bitCount_0f7a4 14 = .ok (.iand, 1) := by decide +kernel
theorem dJ6_bitCount_0f7a4_15 : decode cJ6_bitCount_0f7a4 15 = .ok (.iload_n 0, 1) := by decide +kernel
theorem dJ6_bitCount_0f7a4_16 : decode cJ6_bitCount_0f7a4 16 = .ok (.iconst 2, 1) := by decide +kernel
theorem dJ6_bitCount_0f7a4_17 : decode cJ6_bitCount_0f7a4 17 = .ok (.iushr, 1) := by decide +kernel
theorem dJ6_bitCount_0f7a4_18 : decode cJ6_bitCount_0f7a4 18 = .ok (.ldc_w 266, 3) := by decide +kernel
theorem dJ6_bitCount_0f7a4_21 : decode cJ6_bitCount_0f7a4 21 = .ok (.iand, 1) := by decide +kernel
theorem dJ6_bitCount_0f7a4_22 : decode cJ6_bitCount_0f7a4 22 = .ok (.iadd, 1) := by decide +kernel
theorem dJ6_bitCount_0f7a4_23 : decode cJ6_bitCount_0f7a4 23 = .ok (.istore_n 0, 1) := by decide +kernel
theorem dJ6_bitCount_0f7a4_24 : decode cJ6_bitCount_0f7a4 24 = .ok (.iload_n 0, 1) := by decide +kernel
theorem dJ6_bitCount_0f7a4_25 : decode cJ6_bitCount_0f7a4 25 = .ok (.iload_n 0, 1) := by decide +kernel
theorem dJ6_bitCount_0f7a4_26 : decode cJ6_bitCount_0f7a4 26 = .ok (.iconst 4, 1) := by decide +kernel
theorem dJ6_bitCount_0f7a4_27 : decode cJ6_bitCount_0f7a4 27 = .ok (.iushr, 1) := by decide +kernel
theorem dJ6_bitCount_0f7a4_28 : decode cJ6_bitCount_0f7a4 28 = .ok (.iadd, 1) := by decide +kernel
theorem dJ6_bitCount_0f7a4_29 : decode cJ6_bitCount_0f7a4 29 = .ok (.ldc_w 267, 3) := by decide +kernel
theorem dJ6_bitCount_0f7a4_32 : decode cJ6_bitCount_0f7a4 32 = .ok (.iand, 1) := by decide +kernel
theorem dJ6_bitCount_0f7a4_33 : decode cJ6_bitCount_0f7a4 33 = .ok (.istore_n 0, 1) := by decide +kernel
theorem dJ6_bitCount_0f7a4_34 : decode cJ6_bitCount_0f7a4 34 = .ok (.iload_n 0, 1) := by decide +kernel
theorem dJ6_bitCount_0f7a4_35 : decode cJ6_bitCount_0f7a4 35 = .ok (.iload_n 0, 1) := by decide +kernel
theorem dJ6_bitCount_0f7a4_36 : decode cJ6_bitCount_0f7a4 36 = .ok (.bipush 8, 2) := by decide +kernel
theorem dJ6_bitCount_0f7a4_38 : decode cJ6_bitCount_0f7a4 38 = .ok (.iushr, 1) := by decide +kernel
theorem dJ6_bitCount_0f7a4_39 : decode cJ6_bitCount_0f7a4 39 = .ok (.iadd, 1) := by decide +kernel
theorem dJ6_bitCount_0f7a4_40 : decode cJ6_bitCount_0f7a4 40 = .ok (.istore_n 0, 1) := by decide +kernel
theorem dJ6_bitCount_0f7a4_41 : decode cJ6_bitCount_0f7a4 41 = .ok (.iload_n 0, 1) := by decide +kernel
theorem dJ6_bitCount_0f7a4_42 : decode cJ6_bitCount_0f7a4 42 = .ok (.iload_n 0, 1) := by decide +kernel
theorem dJ6_bitCount_0f7a4_43 : decode cJ6_bitCount_0f7a4 43 = .ok (.bipush 16, 2) := by decide +kernel
theorem dJ6_bitCount_0f7a4_45 : decode cJ6_bitCount_0f7a4 45 = .ok (.iushr, 1) := by decide +kernel
theorem dJ6_bitCount_0f7a4_46 : decode cJ6_bitCount_0f7a4 46 = .ok (.iadd, 1) := by decide +kernel
theorem dJ6_bitCount_0f7a4_47 : decode cJ6_bitCount_0f7a4 47 = .ok (.istore_n 0, 1) := by decide +kernel
theorem dJ6_bitCount_0f7a4_48 : decode cJ6_bitCount_0f7a4 48 = .ok (.iload_n 0, 1) := by decide +kernel
theorem dJ6_bitCount_0f7a4_49 : decode cJ6_bitCount_0f7a4 49 = .ok (.bipush 63, 2) := by decide +kernel
theorem dJ6_bitCount_0f7a4_51 : decode cJ6_bitCount_0f7a4 51 = .ok (.iand, 1) := by decide +kernel
theorem dJ6_bitCount_0f7a4_52 : decode cJ6_bitCount_0f7a4 52 = .ok (.ireturn, 1) := by decide +kernel
theorem dJ9_max_7cf53_0 : decode cJ9_max_7cf53 0 = .ok (.iload_n 0, 1) := by decide +kernel
theorem dJ9_max_7cf53_1 : decode cJ9_max_7cf53 1 = .ok (.iload_n 1, 1) := by decide +kernel
theorem dJ9_max_7cf53_2 : decode cJ9_max_7cf53 2 = .ok (.if_icmp .lt 7, 3) := by decide +kernel
theorem dJ9_max_7cf53_5 : decode cJ9_max_7cf53 5 = .ok (.iload_n 0, 1) := by decide +kernel
theorem dJ9_max_7cf53_6 : decode cJ9_max_7cf53 6 = .ok (.goto 4, 3) := by decide +kernel
theorem dJ9_max_7cf53_9 : decode cJ9_max_7cf53 9 = .ok (.iload_n 1, 1) := by decide +kernel
theorem dJ9_max_7cf53_10 : decode cJ9_max_7cf53 10 = .ok (.ireturn, 1) := by decide +kernel
theorem dJ9_min_7cf53_0 : decode cJ9_min_7cf53 0 = .ok (.iload_n 0, 1) := by decide +kernel
theorem dJ9_min_7cf53_1 : decode cJ9_min_7cf53 1 = .ok (.iload_n 1, 1) := by decide +kernel
theorem dJ9_min_7cf53_2 : decode cJ9_min_7cf53 2 = .ok (.if_icmp .gt 7, 3) := by decide +kernel
theorem dJ9_min_7cf53_5 : decode cJ9_min_7cf53 5 = .ok (.iload_n 0, 1) := by decide +kernel
theorem dJ9_min_7cf53_6 : decode cJ9_min_7cf53 6 = .ok (.goto 4, 3) := by decide +kernel
theorem dJ9_min_7cf53_9 : decode cJ9_min_7cf53 9 = .ok (.iload_n 1, 1) := by decide +kernel
theorem dJ9_min_7cf53_10 : decode cJ9_min_7cf53 10 = .ok (.ireturn, 1) := by decide +kernel
theorem dJ7_fill_d0a16_0 : decode cJ7_fill_d0a16 0 = .ok (.iconst 0, 1) := by decide +kernel
theorem dJ7_fill_d0a16_1 : decode cJ7_fill_d0a16 1 = .ok (.istore_n 3, 1) := by decide +kernel
theorem dJ7_fill_d0a16_2 : decode cJ7_fill_d0a16 2 = .ok (.aload_n 0, 1) := by decide +kernel
theorem dJ7_fill_d0a16_3 : decode cJ7_fill_d0a16 3 = .ok (.arraylength, 1) := by decide +kernel
theorem dJ7_fill_d0a16_4 : decode cJ7_fill_d0a16 4 = .ok (.istore 4, 2) := by decide +kernel
theorem dJ7_fill_d0a16_6 : decode cJ7_fill_d0a16 6 = .ok (.iload_n 3, 1) := by decide +kernel
theorem dJ7_fill_d0a16_7 : decode cJ7_fill_d0a16 7 = .ok (.iload 4, 2) := by decide +kernel
theorem dJ7_fill_d0a16_9 : decode cJ7_fill_d0a16 9 = .ok (.if_icmp .ge 13, 3) := by decide +kernel
theorem dJ7_fill_d0a16_12 : decode cJ7_fill_d0a16 12 = .ok (.aload_n 0, 1) := by decide +kernel
theorem dJ7_fill_d0a16_13 : decode cJ7_fill_d0a16 13 = .ok (.iload_n 3, 1) := by decide +kernel
theorem dJ7_fill_d0a16_14 : decode cJ7_fill_d0a16 14 = .ok (.lload_n 1, 1) := by decide +kernel
theorem dJ7_fill_d0a16_15 : decode cJ7_fill_d0a16 15 = .ok (.lastore, 1) := by decide +kernel
theorem dJ7_fill_d0a16_16 : decode cJ7_fill_d0a16 16 = .ok (.iinc 3 1, 3) := by decide +kernel
theorem dJ7_fill_d0a16_19 : decode cJ7_fill_d0a16 19 = .ok (.goto (-13), 3) := by decide +kernel
theorem dJ7_fill_d0a16_22 : decode cJ7_fill_d0a16 22 = .ok (.return_, 1) := by decide +kernel
end
section
theorem dL_law_0 : decode cL_law 0 = .ok (.new 7, 3) := by decide +kernel
theorem dL_law_3 : decode cL_law 3 = .ok (.dup, 1) := by decide +kernel
theorem dL_law_4 : decode cL_law 4 = .ok (.invokespecial 9, 3) := by decide +kernel
theorem dL_law_7 : decode cL_law 7 = .ok (.astore_n 1, 1) := by decide +kernel
theorem dL_law_8 : decode cL_law 8 = .ok (.new 10, 3) := by decide +kernel
theorem dL_law_11 : decode cL_law 11 = .ok (.dup, 1) := by decide +kernel
theorem dL_law_12 : decode cL_law 12 = .ok (.invokespecial 12, 3) := by decide +kernel
theorem dL_law_15 : decode cL_law 15 = .ok (.astore_n 2, 1) := by decide +kernel
theorem dL_law_16 : decode cL_law 16 = .ok (.iconst 0, 1) := by decide +kernel
theorem dL_law_17 : decode cL_law 17 = .ok (.istore_n 3, 1) := by decide +kernel
theorem dL_law_18 : decode cL_law 18 = .ok (.iload_n 3, 1) := by decide +kernel
theorem dL_law_19 : decode cL_law 19 = .ok (.aload_n 0, 1) := by decide +kernel
theorem dL_law_20 : decode cL_law 20 = .ok (.arraylength, 1) := by decide +kernel
theorem dL_law_21 : decode cL_law 21 = .ok (.bipush 6, 2) := by decide +kernel
theorem dL_law_23 : decode cL_law 23 = .ok (.isub, 1) := by decide +kernel
theorem dL_law_24 : decode cL_law 24 = .ok (.if_icmp .gt 1146, 3) := by decide +kernel
theorem dL_law_27 : decode cL_law 27 = .ok (.aload_n 0, 1) := by decide +kernel
theorem dL_law_28 : decode cL_law 28 = .ok (.iload_n 3, 1) := by decide +kernel
theorem dL_law_29 : decode cL_law 29 = .ok (.iaload, 1) := by decide +kernel
theorem dL_law_30 : decode cL_law 30 = .ok (.bipush 31, 2) := by decide +kernel
theorem dL_law_32 : decode cL_law 32 = .ok (.iand, 1) := by decide +kernel
theorem dL_law_33 : decode cL_law 33 = .ok (.tableswitch 1131 0 31 #[143, 196, 229, 262, 295, 308, 341, 375, 398, 431, 474, 507, 530, 573, 606, 629, 642, 665, 678, 711, 754, 787, 830, 853, 896, 940, 1003, 1026, 1049, 1082, 1095, 1108], 143) := by decide +kernel
theorem dL_law_176 : decode cL_law 176 = .ok (.aload_n 1, 1) := by decide +kernel
theorem dL_law_177 : decode cL_law 177 = .ok (.aload_n 0, 1) := by decide +kernel
theorem dL_law_178 : decode cL_law 178 = .ok (.iload_n 3, 1) := by decide +kernel
theorem dL_law_179 : decode cL_law 179 = .ok (.iconst 1, 1) := by decide +kernel
theorem dL_law_180 : decode cL_law 180 = .ok (.iadd, 1) := by decide +kernel
theorem dL_law_181 : decode cL_law 181 = .ok (.iaload, 1) := by decide +kernel
theorem dL_law_182 : decode cL_law 182 = .ok (.aload_n 0, 1) := by decide +kernel
theorem dL_law_183 : decode cL_law 183 = .ok (.iload_n 3, 1) := by decide +kernel
theorem dL_law_184 : decode cL_law 184 = .ok (.iconst 2, 1) := by decide +kernel
theorem dL_law_185 : decode cL_law 185 = .ok (.iadd, 1) := by decide +kernel
theorem dL_law_186 : decode cL_law 186 = .ok (.iaload, 1) := by decide +kernel
theorem dL_law_187 : decode cL_law 187 = .ok (.aload_n 0, 1) := by decide +kernel
theorem dL_law_188 : decode cL_law 188 = .ok (.iload_n 3, 1) := by decide +kernel
theorem dL_law_189 : decode cL_law 189 = .ok (.iconst 3, 1) := by decide +kernel
theorem dL_law_190 : decode cL_law 190 = .ok (.iadd, 1) := by decide +kernel
theorem dL_law_191 : decode cL_law 191 = .ok (.iaload, 1) := by decide +kernel
theorem dL_law_192 : decode cL_law 192 = .ok (.aload_n 0, 1) := by decide +kernel
theorem dL_law_193 : decode cL_law 193 = .ok (.iload_n 3, 1) := by decide +kernel
theorem dL_law_194 : decode cL_law 194 = .ok (.iconst 4, 1) := by decide +kernel
theorem dL_law_195 : decode cL_law 195 = .ok (.iadd, 1) := by decide +kernel
theorem dL_law_196 : decode cL_law 196 = .ok (.iaload, 1) := by decide +kernel
theorem dL_law_197 : decode cL_law 197 = .ok (.invokevirtual 13, 3) := by decide +kernel
theorem dL_law_200 : decode cL_law 200 = .ok (.aload_n 2, 1) := by decide +kernel
theorem dL_law_201 : decode cL_law 201 = .ok (.aload_n 0, 1) := by decide +kernel
theorem dL_law_202 : decode cL_law 202 = .ok (.iload_n 3, 1) := by decide +kernel
theorem dL_law_203 : decode cL_law 203 = .ok (.iconst 1, 1) := by decide +kernel
theorem dL_law_204 : decode cL_law 204 = .ok (.iadd, 1) := by decide +kernel
theorem dL_law_205 : decode cL_law 205 = .ok (.iaload, 1) := by decide +kernel
theorem dL_law_206 : decode cL_law 206 = .ok (.aload_n 0, 1) := by decide +kernel
theorem dL_law_207 : decode cL_law 207 = .ok (.iload_n 3, 1) := by decide +kernel
theorem dL_law_208 : decode cL_law 208 = .ok (.iconst 2, 1) := by decide +kernel
theorem dL_law_209 : decode cL_law 209 = .ok (.iadd, 1) := by decide +kernel
theorem dL_law_210 : decode cL_law 210 = .ok (.iaload, 1) := by decide +kernel
theorem dL_law_211 : decode cL_law 211 = .ok (.aload_n 0, 1) := by decide +kernel
theorem dL_law_212 : decode cL_law 212 = .ok (.iload_n 3, 1) := by decide +kernel
theorem dL_law_213 : decode cL_law 213 = .ok (.iconst 3, 1) := by decide +kernel
theorem dL_law_214 : decode cL_law 214 = .ok (.iadd, 1) := by decide +kernel
theorem dL_law_215 : decode cL_law 215 = .ok (.iaload, 1) := by decide +kernel
theorem dL_law_216 : decode cL_law 216 = .ok (.aload_n 0, 1) := by decide +kernel
theorem dL_law_217 : decode cL_law 217 = .ok (.iload_n 3, 1) := by decide +kernel
theorem dL_law_218 : decode cL_law 218 = .ok (.iconst 4, 1) := by decide +kernel
theorem dL_law_219 : decode cL_law 219 = .ok (.iadd, 1) := by decide +kernel
theorem dL_law_220 : decode cL_law 220 = .ok (.iaload, 1) := by decide +kernel
theorem dL_law_221 : decode cL_law 221 = .ok (.invokevirtual 17, 3) := by decide +kernel
theorem dL_law_224 : decode cL_law 224 = .ok (.if_icmp .eq 940, 3) := by decide +kernel
theorem dL_law_227 : decode cL_law 227 = .ok (.iconst 0, 1) := by decide +kernel
theorem dL_law_228 : decode cL_law 228 = .ok (.ireturn, 1) := by decide +kernel
theorem dL_law_229 : decode cL_law 229 = .ok (.aload_n 1, 1) := by decide +kernel
theorem dL_law_230 : decode cL_law 230 = .ok (.aload_n 0, 1) := by decide +kernel
theorem dL_law_231 : decode cL_law 231 = .ok (.iload_n 3, 1) := by decide +kernel
theorem dL_law_232 : decode cL_law 232 = .ok (.iconst 1, 1) := by decide +kernel
theorem dL_law_233 : decode cL_law 233 = .ok (.iadd, 1) := by decide +kernel
theorem dL_law_234 : decode cL_law 234 = .ok (.iaload, 1) := by decide +kernel
theorem dL_law_235 : decode cL_law 235 = .ok (.aload_n 0, 1) := by decide +kernel
theorem dL_law_236 : decode cL_law 236 = .ok (.iload_n 3, 1) := by decide +kernel
theorem dL_law_237 : decode cL_law 237 = .ok (.iconst 2, 1) := by decide +kernel
theorem dL_law_238 : decode cL_law 238 = .ok (.iadd, 1) := by decide +kernel
theorem dL_law_239 : decode cL_law 239 = .ok (.iaload, 1) := by decide +kernel
theorem dL_law_240 : decode cL_law 240 = .ok (.invokevirtual 18, 3) := by decide +kernel
theorem dL_law_243 : decode cL_law 243 = .ok (.aload_n 2, 1) := by decide +kernel
theorem dL_law_244 : decode cL_law 244 = .ok (.aload_n 0, 1) := by decide +kernel
theorem dL_law_245 : decode cL_law 245 = .ok (.iload_n 3, 1) := by decide +kernel
theorem dL_law_246 : decode cL_law 246 = .ok (.iconst 1, 1) := by decide +kernel
theorem dL_law_247 : decode cL_law 247 = .ok (.iadd, 1) := by decide +kernel
theorem dL_law_248 : decode cL_law 248 = .ok (.iaload, 1) := by decide +kernel
theorem dL_law_249 : decode cL_law 249 = .ok (.aload_n 0, 1) := by decide +kernel
theorem dL_law_250 : decode cL_law 250 = .ok (.iload_n 3, 1) := by decide +kernel
theorem dL_law_251 : decode cL_law 251 = .ok (.iconst 2, 1) := by decide +kernel
theorem dL_law_252 : decode cL_law 252 = .ok (.iadd, 1) := by decide +kernel
theorem dL_law_253 : decode cL_law 253 = .ok (.iaload, 1) := by decide +kernel
theorem dL_law_254 : decode cL_law 254 = .ok (.invokevirtual 22, 3) := by decide +kernel
theorem dL_law_257 : decode cL_law 257 = .ok (.if_icmp .eq 907, 3) := by decide +kernel
theorem dL_law_260 : decode cL_law 260 = .ok (.iconst 0, 1) := by decide +kernel
theorem dL_law_261 : decode cL_law 261 = .ok (.ireturn, 1) := by decide +kernel
theorem dL_law_262 : decode cL_law 262 = .ok (.aload_n 1, 1) := by decide +kernel
theorem dL_law_263 : decode cL_law 263 = .ok (.aload_n 0, 1) := by decide +kernel
theorem dL_law_264 : decode cL_law 264 = .ok (.iload_n 3, 1) := by decide +kernel
theorem dL_law_265 : decode cL_law 265 = .ok (.iconst 1, 1) := by decide +kernel
theorem dL_law_266 : decode cL_law 266 = .ok (.iadd, 1) := by decide +kernel
theorem dL_law_267 : decode cL_law 267 = .ok (.iaload, 1) := by decide +kernel
theorem dL_law_268 : decode cL_law 268 = .ok (.aload_n 0, 1) := by decide +kernel
theorem dL_law_269 : decode cL_law 269 = .ok (.iload_n 3, 1) := by decide +kernel
theorem dL_law_270 : decode cL_law 270 = .ok (.iconst 2, 1) := by decide +kernel
theorem dL_law_271 : decode cL_law 271 = .ok (.iadd, 1) := by decide +kernel
theorem dL_law_272 : decode cL_law 272 = .ok (.iaload, 1) := by decide +kernel
theorem dL_law_273 : decode cL_law 273 = .ok (.invokevirtual 23, 3) := by decide +kernel
theorem dL_law_276 : decode cL_law 276 = .ok (.aload_n 2, 1) := by decide +kernel
theorem dL_law_277 : decode cL_law 277 = .ok (.aload_n 0, 1) := by decide +kernel
theorem dL_law_278 : decode cL_law 278 = .ok (.iload_n 3, 1) := by decide +kernel
theorem dL_law_279 : decode cL_law 279 = .ok (.iconst 1, 1) := by decide +kernel
theorem dL_law_280 : decode cL_law 280 = .ok (.iadd, 1) := by decide +kernel
theorem dL_law_281 : decode cL_law 281 = .ok (.iaload, 1) := by decide +kernel
theorem dL_law_282 : decode cL_law 282 = .ok (.aload_n 0, 1) := by decide +kernel
theorem dL_law_283 : decode cL_law 283 = .ok (.iload_n 3, 1) := by decide +kernel
theorem dL_law_284 : decode cL_law 284 = .ok (.iconst 2, 1) := by decide +kernel
theorem dL_law_285 : decode cL_law 285 = .ok (.iadd, 1) := by decide +kernel
theorem dL_law_286 : decode cL_law 286 = .ok (.iaload, 1) := by decide +kernel
theorem dL_law_287 : decode cL_law 287 = .ok (.invokevirtual 26, 3) := by decide +kernel
theorem dL_law_290 : decode cL_law 290 = .ok (.if_icmp .eq 874, 3) := by decide +kernel
theorem dL_law_293 : decode cL_law 293 = .ok (.iconst 0, 1) := by decide +kernel
theorem dL_law_294 : decode cL_law 294 = .ok (.ireturn, 1) := by decide +kernel
theorem dL_law_295 : decode cL_law 295 = .ok (.aload_n 1, 1) := by decide +kernel
theorem dL_law_296 : decode cL_law 296 = .ok (.aload_n 0, 1) := by decide +kernel
theorem dL_law_297 : decode cL_law 297 = .ok (.iload_n 3, 1) := by decide +kernel
theorem dL_law_298 : decode cL_law 298 = .ok (.iconst 1, 1) := by decide +kernel
theorem dL_law_299 : decode cL_law 299 = .ok (.iadd, 1) := by decide +kernel
theorem dL_law_300 : decode cL_law 300 = .ok (.iaload, 1) := by decide +kernel
theorem dL_law_301 : decode cL_law 301 = .ok (.aload_n 0, 1) := by decide +kernel
theorem dL_law_302 : decode cL_law 302 = .ok (.iload_n 3, 1) := by decide +kernel
theorem dL_law_303 : decode cL_law 303 = .ok (.iconst 2, 1) := by decide +kernel
theorem dL_law_304 : decode cL_law 304 = .ok (.iadd, 1) := by decide +kernel
theorem dL_law_305 : decode cL_law 305 = .ok (.iaload, 1) := by decide +kernel
theorem dL_law_306 : decode cL_law 306 = .ok (.invokevirtual 27, 3) := by decide +kernel
theorem dL_law_309 : decode cL_law 309 = .ok (.aload_n 2, 1) := by decide +kernel
theorem dL_law_310 : decode cL_law 310 = .ok (.aload_n 0, 1) := by decide +kernel
theorem dL_law_311 : decode cL_law 311 = .ok (.iload_n 3, 1) := by decide +kernel
theorem dL_law_312 : decode cL_law 312 = .ok (.iconst 1, 1) := by decide +kernel
theorem dL_law_313 : decode cL_law 313 = .ok (.iadd, 1) := by decide +kernel
theorem dL_law_314 : decode cL_law 314 = .ok (.iaload, 1) := by decide +kernel
theorem dL_law_315 : decode cL_law 315 = .ok (.aload_n 0, 1) := by decide +kernel
theorem dL_law_316 : decode cL_law 316 = .ok (.iload_n 3, 1) := by decide +kernel
theorem dL_law_317 : decode cL_law 317 = .ok (.iconst 2, 1) := by decide +kernel
theorem dL_law_318 : decode cL_law 318 = .ok (.iadd, 1) := by decide +kernel
theorem dL_law_319 : decode cL_law 319 = .ok (.iaload, 1) := by decide +kernel
theorem dL_law_320 : decode cL_law 320 = .ok (.invokevirtual 30, 3) := by decide +kernel
theorem dL_law_323 : decode cL_law 323 = .ok (.if_icmp .eq 841, 3) := by decide +kernel
theorem dL_law_326 : decode cL_law 326 = .ok (.iconst 0, 1) := by decide +kernel
theorem dL_law_327 : decode cL_law 327 = .ok (.ireturn, 1) := by decide +kernel
theorem dL_law_328 : decode cL_law 328 = .ok (.aload_n 1, 1) := by decide +kernel
theorem dL_law_329 : decode cL_law 329 = .ok (.invokevirtual 31, 3) := by decide +kernel
theorem dL_law_332 : decode cL_law 332 = .ok (.aload_n 2, 1) := by decide +kernel
theorem dL_law_333 : decode cL_law 333 = .ok (.invokevirtual 35, 3) := by decide +kernel
theorem dL_law_336 : decode cL_law 336 = .ok (.if_icmp .eq 828, 3) := by decide +kernel
theorem dL_law_339 : decode cL_law 339 = .ok (.iconst 0, 1) := by decide +kernel
theorem dL_law_340 : decode cL_law 340 = .ok (.ireturn, 1) := by decide +kernel
theorem dL_law_341 : decode cL_law 341 = .ok (.aload_n 1, 1) := by decide +kernel
theorem dL_law_342 : decode cL_law 342 = .ok (.aload_n 0, 1) := by decide +kernel
theorem dL_law_343 : decode cL_law 343 = .ok (.iload_n 3, 1) := by decide +kernel
theorem dL_law_344 : decode cL_law 344 = .ok (.iconst 1, 1) := by decide +kernel
theorem dL_law_345 : decode cL_law 345 = .ok (.iadd, 1) := by decide +kernel
theorem dL_law_346 : decode cL_law 346 = .ok (.iaload, 1) := by decide +kernel
theorem dL_law_347 : decode cL_law 347 = .ok (.aload_n 0, 1) := by decide +kernel
theorem dL_law_348 : decode cL_law 348 = .ok (.iload_n 3, 1) := by decide +kernel
theorem dL_law_349 : decode cL_law 349 = .ok (.iconst 2, 1) := by decide +kernel
theorem dL_law_350 : decode cL_law 350 = .ok (.iadd, 1) := by decide +kernel
theorem dL_law_351 : decode cL_law 351 = .ok (.iaload, 1) := by decide +kernel
theorem dL_law_352 : decode cL_law 352 = .ok (.invokevirtual 36, 3) := by decide +kernel
theorem dL_law_355 : decode cL_law 355 = .ok (.aload_n 2, 1) := by decide +kernel
theorem dL_law_356 : decode cL_law 356 = .ok (.aload_n 0, 1) := by decide +kernel
theorem dL_law_357 : decode cL_law 357 = .ok (.iload_n 3, 1) := by decide +kernel
theorem dL_law_358 : decode cL_law 358 = .ok (.iconst 1, 1) := by decide +kernel
theorem dL_law_359 : decode cL_law 359 = .ok (.iadd, 1) := by decide +kernel
theorem dL_law_360 : decode cL_law 360 = .ok (.iaload, 1) := by decide +kernel
theorem dL_law_361 : decode cL_law 361 = .ok (.aload_n 0, 1) := by decide +kernel
theorem dL_law_362 : decode cL_law 362 = .ok (.iload_n 3, 1) := by decide +kernel
theorem dL_law_363 : decode cL_law 363 = .ok (.iconst 2, 1) := by decide +kernel
theorem dL_law_364 : decode cL_law 364 = .ok (.iadd, 1) := by decide +kernel
theorem dL_law_365 : decode cL_law 365 = .ok (.iaload, 1) := by decide +kernel
theorem dL_law_366 : decode cL_law 366 = .ok (.invokevirtual 39, 3) := by decide +kernel
theorem dL_law_369 : decode cL_law 369 = .ok (.if_icmp .eq 795, 3) := by decide +kernel
theorem dL_law_372 : decode cL_law 372 = .ok (.iconst 0, 1) := by decide +kernel
theorem dL_law_373 : decode cL_law 373 = .ok (.ireturn, 1) := by decide +kernel
theorem dL_law_374 : decode cL_law 374 = .ok (.aload_n 1, 1) := by decide +kernel
theorem dL_law_375 : decode cL_law 375 = .ok (.aload_n 0, 1) := by decide +kernel
theorem dL_law_376 : decode cL_law 376 = .ok (.iload_n 3, 1) := by decide +kernel
theorem dL_law_377 : decode cL_law 377 = .ok (.iconst 1, 1) := by decide +kernel
theorem dL_law_378 : decode cL_law 378 = .ok (.iadd, 1) := by decide +kernel
theorem dL_law_379 : decode cL_law 379 = .ok (.iaload, 1) := by decide +kernel
theorem dL_law_380 : decode cL_law 380 = .ok (.aload_n 0, 1) := by decide +kernel
theorem dL_law_381 : decode cL_law 381 = .ok (.iload_n 3, 1) := by decide +kernel
theorem dL_law_382 : decode cL_law 382 = .ok (.iconst 2, 1) := by decide +kernel
theorem dL_law_383 : decode cL_law 383 = .ok (.iadd, 1) := by decide +kernel
theorem dL_law_384 : decode cL_law 384 = .ok (.iaload, 1) := by decide +kernel
theorem dL_law_385 : decode cL_law 385 = .ok (.invokevirtual 40, 3) := by decide +kernel
theorem dL_law_388 : decode cL_law 388 = .ok (.aload_n 2, 1) := by decide +kernel
theorem dL_law_389 : decode cL_law 389 = .ok (.aload_n 0, 1) := by decide +kernel
theorem dL_law_390 : decode cL_law 390 = .ok (.iload_n 3, 1) := by decide +kernel
theorem dL_law_391 : decode cL_law 391 = .ok (.iconst 1, 1) := by decide +kernel
theorem dL_law_392 : decode cL_law 392 = .ok (.iadd, 1) := by decide +kernel
theorem dL_law_393 : decode cL_law 393 = .ok (.iaload, 1) := by decide +kernel
theorem dL_law_394 : decode cL_law 394 = .ok (.aload_n 0, 1) := by decide +kernel
theorem dL_law_395 : decode cL_law 395 = .ok (.iload_n 3, 1) := by decide +kernel
theorem dL_law_396 : decode cL_law 396 = .ok (.iconst 2, 1) := by decide +kernel
theorem dL_law_397 : decode cL_law 397 = .ok (.iadd, 1) := by decide +kernel
theorem dL_law_398 : decode cL_law 398 = .ok (.iaload, 1) := by decide +kernel
theorem dL_law_399 : decode cL_law 399 = .ok (.invokevirtual 44, 3) := by decide +kernel
theorem dL_law_402 : decode cL_law 402 = .ok (.lcmp, 1) := by decide +kernel
theorem dL_law_403 : decode cL_law 403 = .ok (.ifCond .eq 761, 3) := by decide +kernel
theorem dL_law_406 : decode cL_law 406 = .ok (.iconst 0, 1) := by decide +kernel
theorem dL_law_407 : decode cL_law 407 = .ok (.ireturn, 1) := by decide +kernel
theorem dL_law_408 : decode cL_law 408 = .ok (.aload_n 1, 1) := by decide +kernel
theorem dL_law_409 : decode cL_law 409 = .ok (.aload_n 0, 1) := by decide +kernel
theorem dL_law_410 : decode cL_law 410 = .ok (.iload_n 3, 1) := by decide +kernel
theorem dL_law_411 : decode cL_law 411 = .ok (.iconst 1, 1) := by decide +kernel
theorem dL_law_412 : decode cL_law 412 = .ok (.iadd, 1) := by decide +kernel
theorem dL_law_413 : decode cL_law 413 = .ok (.iaload, 1) := by decide +kernel
theorem dL_law_414 : decode cL_law 414 = .ok (.invokevirtual 45, 3) := by decide +kernel
theorem dL_law_417 : decode cL_law 417 = .ok (.aload_n 2, 1) := by decide +kernel
theorem dL_law_418 : decode cL_law 418 = .ok (.aload_n 0, 1) := by decide +kernel
theorem dL_law_419 : decode cL_law 419 = .ok (.iload_n 3, 1) := by decide +kernel
theorem dL_law_420 : decode cL_law 420 = .ok (.iconst 1, 1) := by decide +kernel
theorem dL_law_421 : decode cL_law 421 = .ok (.iadd, 1) := by decide +kernel
theorem dL_law_422 : decode cL_law 422 = .ok (.iaload, 1) := by decide +kernel
theorem dL_law_423 : decode cL_law 423 = .ok (.invokevirtual 49, 3) := by decide +kernel
theorem dL_law_426 : decode cL_law 426 = .ok (.if_icmp .eq 738, 3) := by decide +kernel
theorem dL_law_429 : decode cL_law 429 = .ok (.iconst 0, 1) := by decide +kernel
theorem dL_law_430 : decode cL_law 430 = .ok (.ireturn, 1) := by decide +kernel
theorem dL_law_431 : decode cL_law 431 = .ok (.aload_n 1, 1) := by decide +kernel
theorem dL_law_432 : decode cL_law 432 = .ok (.aload_n 0, 1) := by decide +kernel
theorem dL_law_433 : decode cL_law 433 = .ok (.iload_n 3, 1) := by decide +kernel
theorem dL_law_434 : decode cL_law 434 = .ok (.iconst 1, 1) := by decide +kernel
theorem dL_law_435 : decode cL_law 435 = .ok (.iadd, 1) := by decide +kernel
theorem dL_law_436 : decode cL_law 436 = .ok (.iaload, 1) := by decide +kernel
theorem dL_law_437 : decode cL_law 437 = .ok (.aload_n 0, 1) := by decide +kernel
theorem dL_law_438 : decode cL_law 438 = .ok (.iload_n 3, 1) := by decide +kernel
theorem dL_law_439 : decode cL_law 439 = .ok (.iconst 2, 1) := by decide +kernel
theorem dL_law_440 : decode cL_law 440 = .ok (.iadd, 1) := by decide +kernel
theorem dL_law_441 : decode cL_law 441 = .ok (.iaload, 1) := by decide +kernel
theorem dL_law_442 : decode cL_law 442 = .ok (.invokevirtual 50, 3) := by decide +kernel
theorem dL_law_445 : decode cL_law 445 = .ok (.aload_n 2, 1) := by decide +kernel
theorem dL_law_446 : decode cL_law 446 = .ok (.aload_n 0, 1) := by decide +kernel
theorem dL_law_447 : decode cL_law 447 = .ok (.iload_n 3, 1) := by decide +kernel
theorem dL_law_448 : decode cL_law 448 = .ok (.iconst 1, 1) := by decide +kernel
theorem dL_law_449 : decode cL_law 449 = .ok (.iadd, 1) := by decide +kernel
theorem dL_law_450 : decode cL_law 450 = .ok (.iaload, 1) := by decide +kernel
theorem dL_law_451 : decode cL_law 451 = .ok (.aload_n 0, 1) := by decide +kernel
theorem dL_law_452 : decode cL_law 452 = .ok (.iload_n 3, 1) := by decide +kernel
theorem dL_law_453 : decode cL_law 453 = .ok (.iconst 2, 1) := by decide +kernel
theorem dL_law_454 : decode cL_law 454 = .ok (.iadd, 1) := by decide +kernel
theorem dL_law_455 : decode cL_law 455 = .ok (.iaload, 1) := by decide +kernel
theorem dL_law_456 : decode cL_law 456 = .ok (.invokevirtual 53, 3) := by decide +kernel
theorem dL_law_459 : decode cL_law 459 = .ok (.if_icmp .eq 705, 3) := by decide +kernel
theorem dL_law_462 : decode cL_law 462 = .ok (.iconst 0, 1) := by decide +kernel
theorem dL_law_463 : decode cL_law 463 = .ok (.ireturn, 1) := by decide +kernel
theorem dL_law_464 : decode cL_law 464 = .ok (.aload_n 1, 1) := by decide +kernel
theorem dL_law_465 : decode cL_law 465 = .ok (.aload_n 0, 1) := by decide +kernel
theorem dL_law_466 : decode cL_law 466 = .ok (.iload_n 3, 1) := by decide +kernel
theorem dL_law_467 : decode cL_law 467 = .ok (.iconst 1, 1) := by decide +kernel
theorem dL_law_468 : decode cL_law 468 = .ok (.iadd, 1) := by decide +kernel
theorem dL_law_469 : decode cL_law 469 = .ok (.iaload, 1) := by decide +kernel
theorem dL_law_470 : decode cL_law 470 = .ok (.aload_n 0, 1) := by decide +kernel
theorem dL_law_471 : decode cL_law 471 = .ok (.iload_n 3, 1) := by decide +kernel
theorem dL_law_472 : decode cL_law 472 = .ok (.iconst 2, 1) := by decide +kernel
theorem dL_law_473 : decode cL_law 473 = .ok (.iadd, 1) := by decide +kernel
theorem dL_law_474 : decode cL_law 474 = .ok (.iaload, 1) := by decide +kernel
theorem dL_law_475 : decode cL_law 475 = .ok (.aload_n 0, 1) := by decide +kernel
theorem dL_law_476 : decode cL_law 476 = .ok (.iload_n 3, 1) := by decide +kernel
theorem dL_law_477 : decode cL_law 477 = .ok (.iconst 3, 1) := by decide +kernel
theorem dL_law_478 : decode cL_law 478 = .ok (.iadd, 1) := by decide +kernel
theorem dL_law_479 : decode cL_law 479 = .ok (.iaload, 1) := by decide +kernel
theorem dL_law_480 : decode cL_law 480 = .ok (.invokevirtual 54, 3) := by decide +kernel
theorem dL_law_483 : decode cL_law 483 = .ok (.aload_n 2, 1) := by decide +kernel
theorem dL_law_484 : decode cL_law 484 = .ok (.aload_n 0, 1) := by decide +kernel
theorem dL_law_485 : decode cL_law 485 = .ok (.iload_n 3, 1) := by decide +kernel
theorem dL_law_486 : decode cL_law 486 = .ok (.iconst 1, 1) := by decide +kernel
theorem dL_law_487 : decode cL_law 487 = .ok (.iadd, 1) := by decide +kernel
theorem dL_law_488 : decode cL_law 488 = .ok (.iaload, 1) := by decide +kernel
theorem dL_law_489 : decode cL_law 489 = .ok (.aload_n 0, 1) := by decide +kernel
theorem dL_law_490 : decode cL_law 490 = .ok (.iload_n 3, 1) := by decide +kernel
theorem dL_law_491 : decode cL_law 491 = .ok (.iconst 2, 1) := by decide +kernel
theorem dL_law_492 : decode cL_law 492 = .ok (.iadd, 1) := by decide +kernel
theorem dL_law_493 : decode cL_law 493 = .ok (.iaload, 1) := by decide +kernel
theorem dL_law_494 : decode cL_law 494 = .ok (.aload_n 0, 1) := by decide +kernel
theorem dL_law_495 : decode cL_law 495 = .ok (.iload_n 3, 1) := by decide +kernel
theorem dL_law_496 : decode cL_law 496 = .ok (.iconst 3, 1) := by decide +kernel
theorem dL_law_497 : decode cL_law 497 = .ok (.iadd, 1) := by decide +kernel
theorem dL_law_498 : decode cL_law 498 = .ok (.iaload, 1) := by decide +kernel
theorem dL_law_499 : decode cL_law 499 = .ok (.invokevirtual 58, 3) := by decide +kernel
theorem dL_law_502 : decode cL_law 502 = .ok (.if_icmp .eq 662, 3) := by decide +kernel
theorem dL_law_505 : decode cL_law 505 = .ok (.iconst 0, 1) := by decide +kernel
theorem dL_law_506 : decode cL_law 506 = .ok (.ireturn, 1) := by decide +kernel
theorem dL_law_507 : decode cL_law 507 = .ok (.aload_n 1, 1) := by decide +kernel
theorem dL_law_508 : decode cL_law 508 = .ok (.aload_n 0, 1) := by decide +kernel
theorem dL_law_509 : decode cL_law 509 = .ok (.iload_n 3, 1) := by decide +kernel
theorem dL_law_510 : decode cL_law 510 = .ok (.iconst 1, 1) := by decide +kernel
theorem dL_law_511 : decode cL_law 511 = .ok (.iadd, 1) := by decide +kernel
theorem dL_law_512 : decode cL_law 512 = .ok (.iaload, 1) := by decide +kernel
theorem dL_law_513 : decode cL_law 513 = .ok (.aload_n 0, 1) := by decide +kernel
theorem dL_law_514 : decode cL_law 514 = .ok (.iload_n 3, 1) := by decide +kernel
theorem dL_law_515 : decode cL_law 515 = .ok (.iconst 2, 1) := by decide +kernel
theorem dL_law_516 : decode cL_law 516 = .ok (.iadd, 1) := by decide +kernel
theorem dL_law_517 : decode cL_law 517 = .ok (.iaload, 1) := by decide +kernel
theorem dL_law_518 : decode cL_law 518 = .ok (.invokevirtual 59, 3) := by decide +kernel
theorem dL_law_521 : decode cL_law 521 = .ok (.aload_n 2, 1) := by decide +kernel
theorem dL_law_522 : decode cL_law 522 = .ok (.aload_n 0, 1) := by decide +kernel
theorem dL_law_523 : decode cL_law 523 = .ok (.iload_n 3, 1) := by decide +kernel
theorem dL_law_524 : decode cL_law 524 = .ok (.iconst 1, 1) := by decide +kernel
theorem dL_law_525 : decode cL_law 525 = .ok (.iadd, 1) := by decide +kernel
theorem dL_law_526 : decode cL_law 526 = .ok (.iaload, 1) := by decide +kernel
theorem dL_law_527 : decode cL_law 527 = .ok (.aload_n 0, 1) := by decide +kernel
theorem dL_law_528 : decode cL_law 528 = .ok (.iload_n 3, 1) := by decide +kernel
theorem dL_law_529 : decode cL_law 529 = .ok (.iconst 2, 1) := by decide +kernel
theorem dL_law_530 : decode cL_law 530 = .ok (.iadd, 1) := by decide +kernel
theorem dL_law_531 : decode cL_law 531 = .ok (.iaload, 1) := by decide +kernel
theorem dL_law_532 : decode cL_law 532 = .ok (.invokevirtual 62, 3) := by decide +kernel
theorem dL_law_535 : decode cL_law 535 = .ok (.if_icmp .eq 629, 3) := by decide +kernel
theorem dL_law_538 : decode cL_law 538 = .ok (.iconst 0, 1) := by decide +kernel
theorem dL_law_539 : decode cL_law 539 = .ok (.ireturn, 1) := by decide +kernel
theorem dL_law_540 : decode cL_law 540 = .ok (.aload_n 1, 1) := by decide +kernel
theorem dL_law_541 : decode cL_law 541 = .ok (.aload_n 0, 1) := by decide +kernel
theorem dL_law_542 : decode cL_law 542 = .ok (.iload_n 3, 1) := by decide +kernel
theorem dL_law_543 : decode cL_law 543 = .ok (.iconst 1, 1) := by decide +kernel
theorem dL_law_544 : decode cL_law 544 = .ok (.iadd, 1) := by decide +kernel
theorem dL_law_545 : decode cL_law 545 = .ok (.iaload, 1) := by decide +kernel
theorem dL_law_546 : decode cL_law 546 = .ok (.invokevirtual 63, 3) := by decide +kernel
theorem dL_law_549 : decode cL_law 549 = .ok (.aload_n 2, 1) := by decide +kernel
theorem dL_law_550 : decode cL_law 550 = .ok (.aload_n 0, 1) := by decide +kernel
theorem dL_law_551 : decode cL_law 551 = .ok (.iload_n 3, 1) := by decide +kernel
theorem dL_law_552 : decode cL_law 552 = .ok (.iconst 1, 1) := by decide +kernel
theorem dL_law_553 : decode cL_law 553 = .ok (.iadd, 1) := by decide +kernel
theorem dL_law_554 : decode cL_law 554 = .ok (.iaload, 1) := by decide +kernel
theorem dL_law_555 : decode cL_law 555 = .ok (.invokevirtual 66, 3) := by decide +kernel
theorem dL_law_558 : decode cL_law 558 = .ok (.if_icmp .eq 606, 3) := by decide +kernel
theorem dL_law_561 : decode cL_law 561 = .ok (.iconst 0, 1) := by decide +kernel
theorem dL_law_562 : decode cL_law 562 = .ok (.ireturn, 1) := by decide +kernel
theorem dL_law_563 : decode cL_law 563 = .ok (.aload_n 1, 1) := by decide +kernel
theorem dL_law_564 : decode cL_law 564 = .ok (.aload_n 0, 1) := by decide +kernel
theorem dL_law_565 : decode cL_law 565 = .ok (.iload_n 3, 1) := by decide +kernel
theorem dL_law_566 : decode cL_law 566 = .ok (.iconst 1, 1) := by decide +kernel
theorem dL_law_567 : decode cL_law 567 = .ok (.iadd, 1) := by decide +kernel
theorem dL_law_568 : decode cL_law 568 = .ok (.iaload, 1) := by decide +kernel
theorem dL_law_569 : decode cL_law 569 = .ok (.aload_n 0, 1) := by decide +kernel
theorem dL_law_570 : decode cL_law 570 = .ok (.iload_n 3, 1) := by decide +kernel
theorem dL_law_571 : decode cL_law 571 = .ok (.iconst 2, 1) := by decide +kernel
theorem dL_law_572 : decode cL_law 572 = .ok (.iadd, 1) := by decide +kernel
theorem dL_law_573 : decode cL_law 573 = .ok (.iaload, 1) := by decide +kernel
theorem dL_law_574 : decode cL_law 574 = .ok (.aload_n 0, 1) := by decide +kernel
theorem dL_law_575 : decode cL_law 575 = .ok (.iload_n 3, 1) := by decide +kernel
theorem dL_law_576 : decode cL_law 576 = .ok (.iconst 3, 1) := by decide +kernel
theorem dL_law_577 : decode cL_law 577 = .ok (.iadd, 1) := by decide +kernel
theorem dL_law_578 : decode cL_law 578 = .ok (.iaload, 1) := by decide +kernel
theorem dL_law_579 : decode cL_law 579 = .ok (.invokevirtual 67, 3) := by decide +kernel
theorem dL_law_582 : decode cL_law 582 = .ok (.aload_n 2, 1) := by decide +kernel
theorem dL_law_583 : decode cL_law 583 = .ok (.aload_n 0, 1) := by decide +kernel
theorem dL_law_584 : decode cL_law 584 = .ok (.iload_n 3, 1) := by decide +kernel
theorem dL_law_585 : decode cL_law 585 = .ok (.iconst 1, 1) := by decide +kernel
theorem dL_law_586 : decode cL_law 586 = .ok (.iadd, 1) := by decide +kernel
theorem dL_law_587 : decode cL_law 587 = .ok (.iaload, 1) := by decide +kernel
theorem dL_law_588 : decode cL_law 588 = .ok (.aload_n 0, 1) := by decide +kernel
theorem dL_law_589 : decode cL_law 589 = .ok (.iload_n 3, 1) := by decide +kernel
theorem dL_law_590 : decode cL_law 590 = .ok (.iconst 2, 1) := by decide +kernel
theorem dL_law_591 : decode cL_law 591 = .ok (.iadd, 1) := by decide +kernel
theorem dL_law_592 : decode cL_law 592 = .ok (.iaload, 1) := by decide +kernel
theorem dL_law_593 : decode cL_law 593 = .ok (.aload_n 0, 1) := by decide +kernel
theorem dL_law_594 : decode cL_law 594 = .ok (.iload_n 3, 1) := by decide +kernel
theorem dL_law_595 : decode cL_law 595 = .ok (.iconst 3, 1) := by decide +kernel
theorem dL_law_596 : decode cL_law 596 = .ok (.iadd, 1) := by decide +kernel
theorem dL_law_597 : decode cL_law 597 = .ok (.iaload, 1) := by decide +kernel
theorem dL_law_598 : decode cL_law 598 = .ok (.invokevirtual 70, 3) := by decide +kernel
theorem dL_law_601 : decode cL_law 601 = .ok (.if_icmp .eq 563, 3) := by decide +kernel
theorem dL_law_604 : decode cL_law 604 = .ok (.iconst 0, 1) := by decide +kernel
theorem dL_law_605 : decode cL_law 605 = .ok (.ireturn, 1) := by decide +kernel
theorem dL_law_606 : decode cL_law 606 = .ok (.aload_n 1, 1) := by decide +kernel
theorem dL_law_607 : decode cL_law 607 = .ok (.aload_n 0, 1) := by decide +kernel
theorem dL_law_608 : decode cL_law 608 = .ok (.iload_n 3, 1) := by decide +kernel
theorem dL_law_609 : decode cL_law 609 = .ok (.iconst 1, 1) := by decide +kernel
theorem dL_law_610 : decode cL_law 610 = .ok (.iadd, 1) := by decide +kernel
theorem dL_law_611 : decode cL_law 611 = .ok (.iaload, 1) := by decide +kernel
theorem dL_law_612 : decode cL_law 612 = .ok (.aload_n 0, 1) := by decide +kernel
theorem dL_law_613 : decode cL_law 613 = .ok (.iload_n 3, 1) := by decide +kernel
theorem dL_law_614 : decode cL_law 614 = .ok (.iconst 2, 1) := by decide +kernel
theorem dL_law_615 : decode cL_law 615 = .ok (.iadd, 1) := by decide +kernel
theorem dL_law_616 : decode cL_law 616 = .ok (.iaload, 1) := by decide +kernel
theorem dL_law_617 : decode cL_law 617 = .ok (.invokevirtual 71, 3) := by decide +kernel
theorem dL_law_620 : decode cL_law 620 = .ok (.aload_n 2, 1) := by decide +kernel
theorem dL_law_621 : decode cL_law 621 = .ok (.aload_n 0, 1) := by decide +kernel
theorem dL_law_622 : decode cL_law 622 = .ok (.iload_n 3, 1) := by decide +kernel
theorem dL_law_623 : decode cL_law 623 = .ok (.iconst 1, 1) := by decide +kernel
theorem dL_law_624 : decode cL_law 624 = .ok (.iadd, 1) := by decide +kernel
theorem dL_law_625 : decode cL_law 625 = .ok (.iaload, 1) := by decide +kernel
theorem dL_law_626 : decode cL_law 626 = .ok (.aload_n 0, 1) := by decide +kernel
theorem dL_law_627 : decode cL_law 627 = .ok (.iload_n 3, 1) := by decide +kernel
theorem dL_law_628 : decode cL_law 628 = .ok (.iconst 2, 1) := by decide +kernel
theorem dL_law_629 : decode cL_law 629 = .ok (.iadd, 1) := by decide +kernel
theorem dL_law_630 : decode cL_law 630 = .ok (.iaload, 1) := by decide +kernel
theorem dL_law_631 : decode cL_law 631 = .ok (.invokevirtual 74, 3) := by decide +kernel
theorem dL_law_634 : decode cL_law 634 = .ok (.if_icmp .eq 530, 3) := by decide +kernel
theorem dL_law_637 : decode cL_law 637 = .ok (.iconst 0, 1) := by decide +kernel
theorem dL_law_638 : decode cL_law 638 = .ok (.ireturn, 1) := by decide +kernel
theorem dL_law_639 : decode cL_law 639 = .ok (.aload_n 1, 1) := by decide +kernel
theorem dL_law_640 : decode cL_law 640 = .ok (.aload_n 0, 1) := by decide +kernel
theorem dL_law_641 : decode cL_law 641 = .ok (.iload_n 3, 1) := by decide +kernel
theorem dL_law_642 : decode cL_law 642 = .ok (.iconst 1, 1) := by decide +kernel
theorem dL_law_643 : decode cL_law 643 = .ok (.iadd, 1) := by decide +kernel
theorem dL_law_644 : decode cL_law 644 = .ok (.iaload, 1) := by decide +kernel
theorem dL_law_645 : decode cL_law 645 = .ok (.invokevirtual 75, 3) := by decide +kernel
theorem dL_law_648 : decode cL_law 648 = .ok (.aload_n 2, 1) := by decide +kernel
theorem dL_law_649 : decode cL_law 649 = .ok (.aload_n 0, 1) := by decide +kernel
theorem dL_law_650 : decode cL_law 650 = .ok (.iload_n 3, 1) := by decide +kernel
theorem dL_law_651 : decode cL_law 651 = .ok (.iconst 1, 1) := by decide +kernel
theorem dL_law_652 : decode cL_law 652 = .ok (.iadd, 1) := by decide +kernel
theorem dL_law_653 : decode cL_law 653 = .ok (.iaload, 1) := by decide +kernel
theorem dL_law_654 : decode cL_law 654 = .ok (.invokevirtual 78, 3) := by decide +kernel
theorem dL_law_657 : decode cL_law 657 = .ok (.if_icmp .eq 507, 3) := by decide +kernel
theorem dL_law_660 : decode cL_law 660 = .ok (.iconst 0, 1) := by decide +kernel
theorem dL_law_661 : decode cL_law 661 = .ok (.ireturn, 1) := by decide +kernel
theorem dL_law_662 : decode cL_law 662 = .ok (.aload_n 1, 1) := by decide +kernel
theorem dL_law_663 : decode cL_law 663 = .ok (.invokevirtual 79, 3) := by decide +kernel
theorem dL_law_666 : decode cL_law 666 = .ok (.aload_n 2, 1) := by decide +kernel
theorem dL_law_667 : decode cL_law 667 = .ok (.invokevirtual 82, 3) := by decide +kernel
theorem dL_law_670 : decode cL_law 670 = .ok (.if_icmp .eq 494, 3) := by decide +kernel
theorem dL_law_673 : decode cL_law 673 = .ok (.iconst 0, 1) := by decide +kernel
theorem dL_law_674 : decode cL_law 674 = .ok (.ireturn, 1) := by decide +kernel
theorem dL_law_675 : decode cL_law 675 = .ok (.aload_n 1, 1) := by decide +kernel
theorem dL_law_676 : decode cL_law 676 = .ok (.aload_n 0, 1) := by decide +kernel
theorem dL_law_677 : decode cL_law 677 = .ok (.iload_n 3, 1) := by decide +kernel
theorem dL_law_678 : decode cL_law 678 = .ok (.iconst 1, 1) := by decide +kernel
theorem dL_law_679 : decode cL_law 679 = .ok (.iadd, 1) := by decide +kernel
theorem dL_law_680 : decode cL_law 680 = .ok (.iaload, 1) := by decide +kernel
theorem dL_law_681 : decode cL_law 681 = .ok (.invokevirtual 83, 3) := by decide +kernel
theorem dL_law_684 : decode cL_law 684 = .ok (.aload_n 2, 1) := by decide +kernel
theorem dL_law_685 : decode cL_law 685 = .ok (.aload_n 0, 1) := by decide +kernel
theorem dL_law_686 : decode cL_law 686 = .ok (.iload_n 3, 1) := by decide +kernel
theorem dL_law_687 : decode cL_law 687 = .ok (.iconst 1, 1) := by decide +kernel
theorem dL_law_688 : decode cL_law 688 = .ok (.iadd, 1) := by decide +kernel
theorem dL_law_689 : decode cL_law 689 = .ok (.iaload, 1) := by decide +kernel
theorem dL_law_690 : decode cL_law 690 = .ok (.invokevirtual 86, 3) := by decide +kernel
theorem dL_law_693 : decode cL_law 693 = .ok (.if_icmp .eq 471, 3) := by decide +kernel
theorem dL_law_696 : decode cL_law 696 = .ok (.iconst 0, 1) := by decide +kernel
theorem dL_law_697 : decode cL_law 697 = .ok (.ireturn, 1) := by decide +kernel
theorem dL_law_698 : decode cL_law 698 = .ok (.aload_n 1, 1) := by decide +kernel
theorem dL_law_699 : decode cL_law 699 = .ok (.invokevirtual 87, 3) := by decide +kernel
theorem dL_law_702 : decode cL_law 702 = .ok (.aload_n 2, 1) := by decide +kernel
theorem dL_law_703 : decode cL_law 703 = .ok (.invokevirtual 90, 3) := by decide +kernel
theorem dL_law_706 : decode cL_law 706 = .ok (.if_icmp .eq 458, 3) := by decide +kernel
theorem dL_law_709 : decode cL_law 709 = .ok (.iconst 0, 1) := by decide +kernel
theorem dL_law_710 : decode cL_law 710 = .ok (.ireturn, 1) := by decide +kernel
theorem dL_law_711 : decode cL_law 711 = .ok (.aload_n 1, 1) := by decide +kernel
theorem dL_law_712 : decode cL_law 712 = .ok (.aload_n 0, 1) := by decide +kernel
theorem dL_law_713 : decode cL_law 713 = .ok (.iload_n 3, 1) := by decide +kernel
theorem dL_law_714 : decode cL_law 714 = .ok (.iconst 1, 1) := by decide +kernel
theorem dL_law_715 : decode cL_law 715 = .ok (.iadd, 1) := by decide +kernel
theorem dL_law_716 : decode cL_law 716 = .ok (.iaload, 1) := by decide +kernel
theorem dL_law_717 : decode cL_law 717 = .ok (.aload_n 0, 1) := by decide +kernel
theorem dL_law_718 : decode cL_law 718 = .ok (.iload_n 3, 1) := by decide +kernel
theorem dL_law_719 : decode cL_law 719 = .ok (.iconst 2, 1) := by decide +kernel
theorem dL_law_720 : decode cL_law 720 = .ok (.iadd, 1) := by decide +kernel
theorem dL_law_721 : decode cL_law 721 = .ok (.iaload, 1) := by decide +kernel
theorem dL_law_722 : decode cL_law 722 = .ok (.invokevirtual 91, 3) := by decide +kernel
theorem dL_law_725 : decode cL_law 725 = .ok (.aload_n 2, 1) := by decide +kernel
theorem dL_law_726 : decode cL_law 726 = .ok (.aload_n 0, 1) := by decide +kernel
theorem dL_law_727 : decode cL_law 727 = .ok (.iload_n 3, 1) := by decide +kernel
theorem dL_law_728 : decode cL_law 728 = .ok (.iconst 1, 1) := by decide +kernel
theorem dL_law_729 : decode cL_law 729 = .ok (.iadd, 1) := by decide +kernel
theorem dL_law_730 : decode cL_law 730 = .ok (.iaload, 1) := by decide +kernel
theorem dL_law_731 : decode cL_law 731 = .ok (.aload_n 0, 1) := by decide +kernel
theorem dL_law_732 : decode cL_law 732 = .ok (.iload_n 3, 1) := by decide +kernel
theorem dL_law_733 : decode cL_law 733 = .ok (.iconst 2, 1) := by decide +kernel
theorem dL_law_734 : decode cL_law 734 = .ok (.iadd, 1) := by decide +kernel
theorem dL_law_735 : decode cL_law 735 = .ok (.iaload, 1) := by decide +kernel
theorem dL_law_736 : decode cL_law 736 = .ok (.invokevirtual 94, 3) := by decide +kernel
theorem dL_law_739 : decode cL_law 739 = .ok (.if_icmp .eq 425, 3) := by decide +kernel
theorem dL_law_742 : decode cL_law 742 = .ok (.iconst 0, 1) := by decide +kernel
theorem dL_law_743 : decode cL_law 743 = .ok (.ireturn, 1) := by decide +kernel
theorem dL_law_744 : decode cL_law 744 = .ok (.aload_n 1, 1) := by decide +kernel
theorem dL_law_745 : decode cL_law 745 = .ok (.aload_n 0, 1) := by decide +kernel
theorem dL_law_746 : decode cL_law 746 = .ok (.iload_n 3, 1) := by decide +kernel
theorem dL_law_747 : decode cL_law 747 = .ok (.iconst 1, 1) := by decide +kernel
theorem dL_law_748 : decode cL_law 748 = .ok (.iadd, 1) := by decide +kernel
theorem dL_law_749 : decode cL_law 749 = .ok (.iaload, 1) := by decide +kernel
theorem dL_law_750 : decode cL_law 750 = .ok (.aload_n 0, 1) := by decide +kernel
theorem dL_law_751 : decode cL_law 751 = .ok (.iload_n 3, 1) := by decide +kernel
theorem dL_law_752 : decode cL_law 752 = .ok (.iconst 2, 1) := by decide +kernel
theorem dL_law_753 : decode cL_law 753 = .ok (.iadd, 1) := by decide +kernel
theorem dL_law_754 : decode cL_law 754 = .ok (.iaload, 1) := by decide +kernel
theorem dL_law_755 : decode cL_law 755 = .ok (.aload_n 0, 1) := by decide +kernel
theorem dL_law_756 : decode cL_law 756 = .ok (.iload_n 3, 1) := by decide +kernel
theorem dL_law_757 : decode cL_law 757 = .ok (.iconst 3, 1) := by decide +kernel
theorem dL_law_758 : decode cL_law 758 = .ok (.iadd, 1) := by decide +kernel
theorem dL_law_759 : decode cL_law 759 = .ok (.iaload, 1) := by decide +kernel
theorem dL_law_760 : decode cL_law 760 = .ok (.invokevirtual 95, 3) := by decide +kernel
theorem dL_law_763 : decode cL_law 763 = .ok (.aload_n 2, 1) := by decide +kernel
theorem dL_law_764 : decode cL_law 764 = .ok (.aload_n 0, 1) := by decide +kernel
theorem dL_law_765 : decode cL_law 765 = .ok (.iload_n 3, 1) := by decide +kernel
theorem dL_law_766 : decode cL_law 766 = .ok (.iconst 1, 1) := by decide +kernel
theorem dL_law_767 : decode cL_law 767 = .ok (.iadd, 1) := by decide +kernel
theorem dL_law_768 : decode cL_law 768 = .ok (.iaload, 1) := by decide +kernel
theorem dL_law_769 : decode cL_law 769 = .ok (.aload_n 0, 1) := by decide +kernel
theorem dL_law_770 : decode cL_law 770 = .ok (.iload_n 3, 1) := by decide +kernel
theorem dL_law_771 : decode cL_law 771 = .ok (.iconst 2, 1) := by decide +kernel
theorem dL_law_772 : decode cL_law 772 = .ok (.iadd, 1) := by decide +kernel
theorem dL_law_773 : decode cL_law 773 = .ok (.iaload, 1) := by decide +kernel
theorem dL_law_774 : decode cL_law 774 = .ok (.aload_n 0, 1) := by decide +kernel
theorem dL_law_775 : decode cL_law 775 = .ok (.iload_n 3, 1) := by decide +kernel
theorem dL_law_776 : decode cL_law 776 = .ok (.iconst 3, 1) := by decide +kernel
theorem dL_law_777 : decode cL_law 777 = .ok (.iadd, 1) := by decide +kernel
theorem dL_law_778 : decode cL_law 778 = .ok (.iaload, 1) := by decide +kernel
theorem dL_law_779 : decode cL_law 779 = .ok (.invokevirtual 98, 3) := by decide +kernel
theorem dL_law_782 : decode cL_law 782 = .ok (.if_icmp .eq 382, 3) := by decide +kernel
theorem dL_law_785 : decode cL_law 785 = .ok (.iconst 0, 1) := by decide +kernel
theorem dL_law_786 : decode cL_law 786 = .ok (.ireturn, 1) := by decide +kernel
theorem dL_law_787 : decode cL_law 787 = .ok (.aload_n 1, 1) := by decide +kernel
theorem dL_law_788 : decode cL_law 788 = .ok (.aload_n 0, 1) := by decide +kernel
theorem dL_law_789 : decode cL_law 789 = .ok (.iload_n 3, 1) := by decide +kernel
theorem dL_law_790 : decode cL_law 790 = .ok (.iconst 1, 1) := by decide +kernel
theorem dL_law_791 : decode cL_law 791 = .ok (.iadd, 1) := by decide +kernel
theorem dL_law_792 : decode cL_law 792 = .ok (.iaload, 1) := by decide +kernel
theorem dL_law_793 : decode cL_law 793 = .ok (.aload_n 0, 1) := by decide +kernel
theorem dL_law_794 : decode cL_law 794 = .ok (.iload_n 3, 1) := by decide +kernel
theorem dL_law_795 : decode cL_law 795 = .ok (.iconst 2, 1) := by decide +kernel
theorem dL_law_796 : decode cL_law 796 = .ok (.iadd, 1) := by decide +kernel
theorem dL_law_797 : decode cL_law 797 = .ok (.iaload, 1) := by decide +kernel
theorem dL_law_798 : decode cL_law 798 = .ok (.invokevirtual 99, 3) := by decide +kernel
theorem dL_law_801 : decode cL_law 801 = .ok (.aload_n 2, 1) := by decide +kernel
theorem dL_law_802 : decode cL_law 802 = .ok (.aload_n 0, 1) := by decide +kernel
theorem dL_law_803 : decode cL_law 803 = .ok (.iload_n 3, 1) := by decide +kernel
theorem dL_law_804 : decode cL_law 804 = .ok (.iconst 1, 1) := by decide +kernel
theorem dL_law_805 : decode cL_law 805 = .ok (.iadd, 1) := by decide +kernel
theorem dL_law_806 : decode cL_law 806 = .ok (.iaload, 1) := by decide +kernel
theorem dL_law_807 : decode cL_law 807 = .ok (.aload_n 0, 1) := by decide +kernel
theorem dL_law_808 : decode cL_law 808 = .ok (.iload_n 3, 1) := by decide +kernel
theorem dL_law_809 : decode cL_law 809 = .ok (.iconst 2, 1) := by decide +kernel
theorem dL_law_810 : decode cL_law 810 = .ok (.iadd, 1) := by decide +kernel
theorem dL_law_811 : decode cL_law 811 = .ok (.iaload, 1) := by decide +kernel
theorem dL_law_812 : decode cL_law 812 = .ok (.invokevirtual 102, 3) := by decide +kernel
theorem dL_law_815 : decode cL_law 815 = .ok (.if_icmp .eq 349, 3) := by decide +kernel
theorem dL_law_818 : decode cL_law 818 = .ok (.iconst 0, 1) := by decide +kernel
theorem dL_law_819 : decode cL_law 819 = .ok (.ireturn, 1) := by decide +kernel
theorem dL_law_820 : decode cL_law 820 = .ok (.aload_n 1, 1) := by decide +kernel
theorem dL_law_821 : decode cL_law 821 = .ok (.aload_n 0, 1) := by decide +kernel
theorem dL_law_822 : decode cL_law 822 = .ok (.iload_n 3, 1) := by decide +kernel
theorem dL_law_823 : decode cL_law 823 = .ok (.iconst 1, 1) := by decide +kernel
theorem dL_law_824 : decode cL_law 824 = .ok (.iadd, 1) := by decide +kernel
theorem dL_law_825 : decode cL_law 825 = .ok (.iaload, 1) := by decide +kernel
theorem dL_law_826 : decode cL_law 826 = .ok (.aload_n 0, 1) := by decide +kernel
theorem dL_law_827 : decode cL_law 827 = .ok (.iload_n 3, 1) := by decide +kernel
theorem dL_law_828 : decode cL_law 828 = .ok (.iconst 2, 1) := by decide +kernel
theorem dL_law_829 : decode cL_law 829 = .ok (.iadd, 1) := by decide +kernel
theorem dL_law_830 : decode cL_law 830 = .ok (.iaload, 1) := by decide +kernel
theorem dL_law_831 : decode cL_law 831 = .ok (.aload_n 0, 1) := by decide +kernel
theorem dL_law_832 : decode cL_law 832 = .ok (.iload_n 3, 1) := by decide +kernel
theorem dL_law_833 : decode cL_law 833 = .ok (.iconst 3, 1) := by decide +kernel
theorem dL_law_834 : decode cL_law 834 = .ok (.iadd, 1) := by decide +kernel
theorem dL_law_835 : decode cL_law 835 = .ok (.iaload, 1) := by decide +kernel
theorem dL_law_836 : decode cL_law 836 = .ok (.invokevirtual 103, 3) := by decide +kernel
theorem dL_law_839 : decode cL_law 839 = .ok (.aload_n 2, 1) := by decide +kernel
theorem dL_law_840 : decode cL_law 840 = .ok (.aload_n 0, 1) := by decide +kernel
theorem dL_law_841 : decode cL_law 841 = .ok (.iload_n 3, 1) := by decide +kernel
theorem dL_law_842 : decode cL_law 842 = .ok (.iconst 1, 1) := by decide +kernel
theorem dL_law_843 : decode cL_law 843 = .ok (.iadd, 1) := by decide +kernel
theorem dL_law_844 : decode cL_law 844 = .ok (.iaload, 1) := by decide +kernel
theorem dL_law_845 : decode cL_law 845 = .ok (.aload_n 0, 1) := by decide +kernel
theorem dL_law_846 : decode cL_law 846 = .ok (.iload_n 3, 1) := by decide +kernel
theorem dL_law_847 : decode cL_law 847 = .ok (.iconst 2, 1) := by decide +kernel
theorem dL_law_848 : decode cL_law 848 = .ok (.iadd, 1) := by decide +kernel
theorem dL_law_849 : decode cL_law 849 = .ok (.iaload, 1) := by decide +kernel
theorem dL_law_850 : decode cL_law 850 = .ok (.aload_n 0, 1) := by decide +kernel
theorem dL_law_851 : decode cL_law 851 = .ok (.iload_n 3, 1) := by decide +kernel
theorem dL_law_852 : decode cL_law 852 = .ok (.iconst 3, 1) := by decide +kernel
theorem dL_law_853 : decode cL_law 853 = .ok (.iadd, 1) := by decide +kernel
theorem dL_law_854 : decode cL_law 854 = .ok (.iaload, 1) := by decide +kernel
theorem dL_law_855 : decode cL_law 855 = .ok (.invokevirtual 106, 3) := by decide +kernel
theorem dL_law_858 : decode cL_law 858 = .ok (.if_icmp .eq 306, 3) := by decide +kernel
theorem dL_law_861 : decode cL_law 861 = .ok (.iconst 0, 1) := by decide +kernel
theorem dL_law_862 : decode cL_law 862 = .ok (.ireturn, 1) := by decide +kernel
theorem dL_law_863 : decode cL_law 863 = .ok (.aload_n 1, 1) := by decide +kernel
theorem dL_law_864 : decode cL_law 864 = .ok (.aload_n 0, 1) := by decide +kernel
theorem dL_law_865 : decode cL_law 865 = .ok (.iload_n 3, 1) := by decide +kernel
theorem dL_law_866 : decode cL_law 866 = .ok (.iconst 1, 1) := by decide +kernel
theorem dL_law_867 : decode cL_law 867 = .ok (.iadd, 1) := by decide +kernel
theorem dL_law_868 : decode cL_law 868 = .ok (.iaload, 1) := by decide +kernel
theorem dL_law_869 : decode cL_law 869 = .ok (.invokevirtual 107, 3) := by decide +kernel
theorem dL_law_872 : decode cL_law 872 = .ok (.aload_n 2, 1) := by decide +kernel
theorem dL_law_873 : decode cL_law 873 = .ok (.aload_n 0, 1) := by decide +kernel
theorem dL_law_874 : decode cL_law 874 = .ok (.iload_n 3, 1) := by decide +kernel
theorem dL_law_875 : decode cL_law 875 = .ok (.iconst 1, 1) := by decide +kernel
theorem dL_law_876 : decode cL_law 876 = .ok (.iadd, 1) := by decide +kernel
theorem dL_law_877 : decode cL_law 877 = .ok (.iaload, 1) := by decide +kernel
theorem dL_law_878 : decode cL_law 878 = .ok (.invokevirtual 110, 3) := by decide +kernel
theorem dL_law_881 : decode cL_law 881 = .ok (.if_icmp .eq 283, 3) := by decide +kernel
theorem dL_law_884 : decode cL_law 884 = .ok (.iconst 0, 1) := by decide +kernel
theorem dL_law_885 : decode cL_law 885 = .ok (.ireturn, 1) := by decide +kernel
theorem dL_law_886 : decode cL_law 886 = .ok (.aload_n 1, 1) := by decide +kernel
theorem dL_law_887 : decode cL_law 887 = .ok (.aload_n 0, 1) := by decide +kernel
theorem dL_law_888 : decode cL_law 888 = .ok (.iload_n 3, 1) := by decide +kernel
theorem dL_law_889 : decode cL_law 889 = .ok (.iconst 1, 1) := by decide +kernel
theorem dL_law_890 : decode cL_law 890 = .ok (.iadd, 1) := by decide +kernel
theorem dL_law_891 : decode cL_law 891 = .ok (.iaload, 1) := by decide +kernel
theorem dL_law_892 : decode cL_law 892 = .ok (.aload_n 0, 1) := by decide +kernel
theorem dL_law_893 : decode cL_law 893 = .ok (.iload_n 3, 1) := by decide +kernel
theorem dL_law_894 : decode cL_law 894 = .ok (.iconst 2, 1) := by decide +kernel
theorem dL_law_895 : decode cL_law 895 = .ok (.iadd, 1) := by decide +kernel
theorem dL_law_896 : decode cL_law 896 = .ok (.iaload, 1) := by decide +kernel
theorem dL_law_897 : decode cL_law 897 = .ok (.aload_n 0, 1) := by decide +kernel
theorem dL_law_898 : decode cL_law 898 = .ok (.iload_n 3, 1) := by decide +kernel
theorem dL_law_899 : decode cL_law 899 = .ok (.iconst 3, 1) := by decide +kernel
theorem dL_law_900 : decode cL_law 900 = .ok (.iadd, 1) := by decide +kernel
theorem dL_law_901 : decode cL_law 901 = .ok (.iaload, 1) := by decide +kernel
theorem dL_law_902 : decode cL_law 902 = .ok (.invokevirtual 111, 3) := by decide +kernel
theorem dL_law_905 : decode cL_law 905 = .ok (.aload_n 2, 1) := by decide +kernel
theorem dL_law_906 : decode cL_law 906 = .ok (.aload_n 0, 1) := by decide +kernel
theorem dL_law_907 : decode cL_law 907 = .ok (.iload_n 3, 1) := by decide +kernel
theorem dL_law_908 : decode cL_law 908 = .ok (.iconst 1, 1) := by decide +kernel
theorem dL_law_909 : decode cL_law 909 = .ok (.iadd, 1) := by decide +kernel
theorem dL_law_910 : decode cL_law 910 = .ok (.iaload, 1) := by decide +kernel
theorem dL_law_911 : decode cL_law 911 = .ok (.aload_n 0, 1) := by decide +kernel
theorem dL_law_912 : decode cL_law 912 = .ok (.iload_n 3, 1) := by decide +kernel
theorem dL_law_913 : decode cL_law 913 = .ok (.iconst 2, 1) := by decide +kernel
theorem dL_law_914 : decode cL_law 914 = .ok (.iadd, 1) := by decide +kernel
theorem dL_law_915 : decode cL_law 915 = .ok (.iaload, 1) := by decide +kernel
theorem dL_law_916 : decode cL_law 916 = .ok (.aload_n 0, 1) := by decide +kernel
theorem dL_law_917 : decode cL_law 917 = .ok (.iload_n 3, 1) := by decide +kernel
theorem dL_law_918 : decode cL_law 918 = .ok (.iconst 3, 1) := by decide +kernel
theorem dL_law_919 : decode cL_law 919 = .ok (.iadd, 1) := by decide +kernel
theorem dL_law_920 : decode cL_law 920 = .ok (.iaload, 1) := by decide +kernel
theorem dL_law_921 : decode cL_law 921 = .ok (.invokevirtual 114, 3) := by decide +kernel
theorem dL_law_924 : decode cL_law 924 = .ok (.if_icmp .eq 240, 3) := by decide +kernel
theorem dL_law_927 : decode cL_law 927 = .ok (.iconst 0, 1) := by decide +kernel
theorem dL_law_928 : decode cL_law 928 = .ok (.ireturn, 1) := by decide +kernel
theorem dL_law_929 : decode cL_law 929 = .ok (.aload_n 1, 1) := by decide +kernel
theorem dL_law_930 : decode cL_law 930 = .ok (.aload_n 0, 1) := by decide +kernel
theorem dL_law_931 : decode cL_law 931 = .ok (.iload_n 3, 1) := by decide +kernel
theorem dL_law_932 : decode cL_law 932 = .ok (.iconst 1, 1) := by decide +kernel
theorem dL_law_933 : decode cL_law 933 = .ok (.iadd, 1) := by decide +kernel
theorem dL_law_934 : decode cL_law 934 = .ok (.iaload, 1) := by decide +kernel
theorem dL_law_935 : decode cL_law 935 = .ok (.aload_n 0, 1) := by decide +kernel
theorem dL_law_936 : decode cL_law 936 = .ok (.iload_n 3, 1) := by decide +kernel
theorem dL_law_937 : decode cL_law 937 = .ok (.iconst 2, 1) := by decide +kernel
theorem dL_law_938 : decode cL_law 938 = .ok (.iadd, 1) := by decide +kernel
theorem dL_law_939 : decode cL_law 939 = .ok (.iaload, 1) := by decide +kernel
theorem dL_law_940 : decode cL_law 940 = .ok (.aload_n 0, 1) := by decide +kernel
theorem dL_law_941 : decode cL_law 941 = .ok (.iload_n 3, 1) := by decide +kernel
theorem dL_law_942 : decode cL_law 942 = .ok (.iconst 3, 1) := by decide +kernel
theorem dL_law_943 : decode cL_law 943 = .ok (.iadd, 1) := by decide +kernel
theorem dL_law_944 : decode cL_law 944 = .ok (.iaload, 1) := by decide +kernel
theorem dL_law_945 : decode cL_law 945 = .ok (.invokevirtual 115, 3) := by decide +kernel
theorem dL_law_948 : decode cL_law 948 = .ok (.aload_n 2, 1) := by decide +kernel
theorem dL_law_949 : decode cL_law 949 = .ok (.aload_n 0, 1) := by decide +kernel
theorem dL_law_950 : decode cL_law 950 = .ok (.iload_n 3, 1) := by decide +kernel
theorem dL_law_951 : decode cL_law 951 = .ok (.iconst 1, 1) := by decide +kernel
theorem dL_law_952 : decode cL_law 952 = .ok (.iadd, 1) := by decide +kernel
theorem dL_law_953 : decode cL_law 953 = .ok (.iaload, 1) := by decide +kernel
theorem dL_law_954 : decode cL_law 954 = .ok (.aload_n 0, 1) := by decide +kernel
theorem dL_law_955 : decode cL_law 955 = .ok (.iload_n 3, 1) := by decide +kernel
theorem dL_law_956 : decode cL_law 956 = .ok (.iconst 2, 1) := by decide +kernel
theorem dL_law_957 : decode cL_law 957 = .ok (.iadd, 1) := by decide +kernel
theorem dL_law_958 : decode cL_law 958 = .ok (.iaload, 1) := by decide +kernel
theorem dL_law_959 : decode cL_law 959 = .ok (.aload_n 0, 1) := by decide +kernel
theorem dL_law_960 : decode cL_law 960 = .ok (.iload_n 3, 1) := by decide +kernel
theorem dL_law_961 : decode cL_law 961 = .ok (.iconst 3, 1) := by decide +kernel
theorem dL_law_962 : decode cL_law 962 = .ok (.iadd, 1) := by decide +kernel
theorem dL_law_963 : decode cL_law 963 = .ok (.iaload, 1) := by decide +kernel
theorem dL_law_964 : decode cL_law 964 = .ok (.invokevirtual 119, 3) := by decide +kernel
theorem dL_law_967 : decode cL_law 967 = .ok (.lcmp, 1) := by decide +kernel
theorem dL_law_968 : decode cL_law 968 = .ok (.ifCond .eq 196, 3) := by decide +kernel
theorem dL_law_971 : decode cL_law 971 = .ok (.iconst 0, 1) := by decide +kernel
theorem dL_law_972 : decode cL_law 972 = .ok (.ireturn, 1) := by decide +kernel
theorem dL_law_973 : decode cL_law 973 = .ok (.aload_n 1, 1) := by decide +kernel
theorem dL_law_974 : decode cL_law 974 = .ok (.aload_n 0, 1) := by decide +kernel
theorem dL_law_975 : decode cL_law 975 = .ok (.iload_n 3, 1) := by decide +kernel
theorem dL_law_976 : decode cL_law 976 = .ok (.iconst 1, 1) := by decide +kernel
theorem dL_law_977 : decode cL_law 977 = .ok (.iadd, 1) := by decide +kernel
theorem dL_law_978 : decode cL_law 978 = .ok (.iaload, 1) := by decide +kernel
theorem dL_law_979 : decode cL_law 979 = .ok (.aload_n 0, 1) := by decide +kernel
theorem dL_law_980 : decode cL_law 980 = .ok (.iload_n 3, 1) := by decide +kernel
theorem dL_law_981 : decode cL_law 981 = .ok (.iconst 2, 1) := by decide +kernel
theorem dL_law_982 : decode cL_law 982 = .ok (.iadd, 1) := by decide +kernel
theorem dL_law_983 : decode cL_law 983 = .ok (.iaload, 1) := by decide +kernel
theorem dL_law_984 : decode cL_law 984 = .ok (.aload_n 0, 1) := by decide +kernel
theorem dL_law_985 : decode cL_law 985 = .ok (.iload_n 3, 1) := by decide +kernel
theorem dL_law_986 : decode cL_law 986 = .ok (.iconst 3, 1) := by decide +kernel
theorem dL_law_987 : decode cL_law 987 = .ok (.iadd, 1) := by decide +kernel
theorem dL_law_988 : decode cL_law 988 = .ok (.iaload, 1) := by decide +kernel
theorem dL_law_989 : decode cL_law 989 = .ok (.aload_n 0, 1) := by decide +kernel
theorem dL_law_990 : decode cL_law 990 = .ok (.iload_n 3, 1) := by decide +kernel
theorem dL_law_991 : decode cL_law 991 = .ok (.iconst 4, 1) := by decide +kernel
theorem dL_law_992 : decode cL_law 992 = .ok (.iadd, 1) := by decide +kernel
theorem dL_law_993 : decode cL_law 993 = .ok (.iaload, 1) := by decide +kernel
theorem dL_law_994 : decode cL_law 994 = .ok (.aload_n 0, 1) := by decide +kernel
theorem dL_law_995 : decode cL_law 995 = .ok (.iload_n 3, 1) := by decide +kernel
theorem dL_law_996 : decode cL_law 996 = .ok (.iconst 5, 1) := by decide +kernel
theorem dL_law_997 : decode cL_law 997 = .ok (.iadd, 1) := by decide +kernel
theorem dL_law_998 : decode cL_law 998 = .ok (.iaload, 1) := by decide +kernel
theorem dL_law_999 : decode cL_law 999 = .ok (.invokevirtual 120, 3) := by decide +kernel
theorem dL_law_1002 : decode cL_law 1002 = .ok (.aload_n 2, 1) := by decide +kernel
theorem dL_law_1003 : decode cL_law 1003 = .ok (.aload_n 0, 1) := by decide +kernel
theorem dL_law_1004 : decode cL_law 1004 = .ok (.iload_n 3, 1) := by decide +kernel
theorem dL_law_1005 : decode cL_law 1005 = .ok (.iconst 1, 1) := by decide +kernel
theorem dL_law_1006 : decode cL_law 1006 = .ok (.iadd, 1) := by decide +kernel
theorem dL_law_1007 : decode cL_law 1007 = .ok (.iaload, 1) := by decide +kernel
theorem dL_law_1008 : decode cL_law 1008 = .ok (.aload_n 0, 1) := by decide +kernel
theorem dL_law_1009 : decode cL_law 1009 = .ok (.iload_n 3, 1) := by decide +kernel
theorem dL_law_1010 : decode cL_law 1010 = .ok (.iconst 2, 1) := by decide +kernel
theorem dL_law_1011 : decode cL_law 1011 = .ok (.iadd, 1) := by decide +kernel
theorem dL_law_1012 : decode cL_law 1012 = .ok (.iaload, 1) := by decide +kernel
theorem dL_law_1013 : decode cL_law 1013 = .ok (.aload_n 0, 1) := by decide +kernel
theorem dL_law_1014 : decode cL_law 1014 = .ok (.iload_n 3, 1) := by decide +kernel
theorem dL_law_1015 : decode cL_law 1015 = .ok (.iconst 3, 1) := by decide +kernel
theorem dL_law_1016 : decode cL_law 1016 = .ok (.iadd, 1) := by decide +kernel
theorem dL_law_1017 : decode cL_law 1017 = .ok (.iaload, 1) := by decide +kernel
theorem dL_law_1018 : decode cL_law 1018 = .ok (.aload_n 0, 1) := by decide +kernel
theorem dL_law_1019 : decode cL_law 1019 = .ok (.iload_n 3, 1) := by decide +kernel
theorem dL_law_1020 : decode cL_law 1020 = .ok (.iconst 4, 1) := by decide +kernel
theorem dL_law_1021 : decode cL_law 1021 = .ok (.iadd, 1) := by decide +kernel
theorem dL_law_1022 : decode cL_law 1022 = .ok (.iaload, 1) := by decide +kernel
theorem dL_law_1023 : decode cL_law 1023 = .ok (.aload_n 0, 1) := by decide +kernel
theorem dL_law_1024 : decode cL_law 1024 = .ok (.iload_n 3, 1) := by decide +kernel
theorem dL_law_1025 : decode cL_law 1025 = .ok (.iconst 5, 1) := by decide +kernel
theorem dL_law_1026 : decode cL_law 1026 = .ok (.iadd, 1) := by decide +kernel
theorem dL_law_1027 : decode cL_law 1027 = .ok (.iaload, 1) := by decide +kernel
theorem dL_law_1028 : decode cL_law 1028 = .ok (.invokevirtual 124, 3) := by decide +kernel
theorem dL_law_1031 : decode cL_law 1031 = .ok (.if_icmp .eq 133, 3) := by decide +kernel
theorem dL_law_1034 : decode cL_law 1034 = .ok (.iconst 0, 1) := by decide +kernel
theorem dL_law_1035 : decode cL_law 1035 = .ok (.ireturn, 1) := by decide +kernel
theorem dL_law_1036 : decode cL_law 1036 = .ok (.aload_n 1, 1) := by decide +kernel
theorem dL_law_1037 : decode cL_law 1037 = .ok (.aload_n 0, 1) := by decide +kernel
theorem dL_law_1038 : decode cL_law 1038 = .ok (.iload_n 3, 1) := by decide +kernel
theorem dL_law_1039 : decode cL_law 1039 = .ok (.iconst 1, 1) := by decide +kernel
theorem dL_law_1040 : decode cL_law 1040 = .ok (.iadd, 1) := by decide +kernel
theorem dL_law_1041 : decode cL_law 1041 = .ok (.iaload, 1) := by decide +kernel
theorem dL_law_1042 : decode cL_law 1042 = .ok (.invokevirtual 125, 3) := by decide +kernel
theorem dL_law_1045 : decode cL_law 1045 = .ok (.aload_n 2, 1) := by decide +kernel
theorem dL_law_1046 : decode cL_law 1046 = .ok (.aload_n 0, 1) := by decide +kernel
theorem dL_law_1047 : decode cL_law 1047 = .ok (.iload_n 3, 1) := by decide +kernel
theorem dL_law_1048 : decode cL_law 1048 = .ok (.iconst 1, 1) := by decide +kernel
theorem dL_law_1049 : decode cL_law 1049 = .ok (.iadd, 1) := by decide +kernel
theorem dL_law_1050 : decode cL_law 1050 = .ok (.iaload, 1) := by decide +kernel
theorem dL_law_1051 : decode cL_law 1051 = .ok (.invokevirtual 128, 3) := by decide +kernel
theorem dL_law_1054 : decode cL_law 1054 = .ok (.if_icmp .eq 110, 3) := by decide +kernel
theorem dL_law_1057 : decode cL_law 1057 = .ok (.iconst 0, 1) := by decide +kernel
theorem dL_law_1058 : decode cL_law 1058 = .ok (.ireturn, 1) := by decide +kernel
theorem dL_law_1059 : decode cL_law 1059 = .ok (.aload_n 1, 1) := by decide +kernel
theorem dL_law_1060 : decode cL_law 1060 = .ok (.aload_n 0, 1) := by decide +kernel
theorem dL_law_1061 : decode cL_law 1061 = .ok (.iload_n 3, 1) := by decide +kernel
theorem dL_law_1062 : decode cL_law 1062 = .ok (.iconst 1, 1) := by decide +kernel
theorem dL_law_1063 : decode cL_law 1063 = .ok (.iadd, 1) := by decide +kernel
theorem dL_law_1064 : decode cL_law 1064 = .ok (.iaload, 1) := by decide +kernel
theorem dL_law_1065 : decode cL_law 1065 = .ok (.invokevirtual 129, 3) := by decide +kernel
theorem dL_law_1068 : decode cL_law 1068 = .ok (.aload_n 2, 1) := by decide +kernel
theorem dL_law_1069 : decode cL_law 1069 = .ok (.aload_n 0, 1) := by decide +kernel
theorem dL_law_1070 : decode cL_law 1070 = .ok (.iload_n 3, 1) := by decide +kernel
theorem dL_law_1071 : decode cL_law 1071 = .ok (.iconst 1, 1) := by decide +kernel
theorem dL_law_1072 : decode cL_law 1072 = .ok (.iadd, 1) := by decide +kernel
theorem dL_law_1073 : decode cL_law 1073 = .ok (.iaload, 1) := by decide +kernel
theorem dL_law_1074 : decode cL_law 1074 = .ok (.invokevirtual 132, 3) := by decide +kernel
theorem dL_law_1077 : decode cL_law 1077 = .ok (.if_icmp .eq 87, 3) := by decide +kernel
theorem dL_law_1080 : decode cL_law 1080 = .ok (.iconst 0, 1) := by decide +kernel
theorem dL_law_1081 : decode cL_law 1081 = .ok (.ireturn, 1) := by decide +kernel
theorem dL_law_1082 : decode cL_law 1082 = .ok (.aload_n 1, 1) := by decide +kernel
theorem dL_law_1083 : decode cL_law 1083 = .ok (.aload_n 0, 1) := by decide +kernel
theorem dL_law_1084 : decode cL_law 1084 = .ok (.iload_n 3, 1) := by decide +kernel
theorem dL_law_1085 : decode cL_law 1085 = .ok (.iconst 1, 1) := by decide +kernel
theorem dL_law_1086 : decode cL_law 1086 = .ok (.iadd, 1) := by decide +kernel
theorem dL_law_1087 : decode cL_law 1087 = .ok (.iaload, 1) := by decide +kernel
theorem dL_law_1088 : decode cL_law 1088 = .ok (.aload_n 0, 1) := by decide +kernel
theorem dL_law_1089 : decode cL_law 1089 = .ok (.iload_n 3, 1) := by decide +kernel
theorem dL_law_1090 : decode cL_law 1090 = .ok (.iconst 2, 1) := by decide +kernel
theorem dL_law_1091 : decode cL_law 1091 = .ok (.iadd, 1) := by decide +kernel
theorem dL_law_1092 : decode cL_law 1092 = .ok (.iaload, 1) := by decide +kernel
theorem dL_law_1093 : decode cL_law 1093 = .ok (.invokevirtual 133, 3) := by decide +kernel
theorem dL_law_1096 : decode cL_law 1096 = .ok (.aload_n 2, 1) := by decide +kernel
theorem dL_law_1097 : decode cL_law 1097 = .ok (.aload_n 0, 1) := by decide +kernel
theorem dL_law_1098 : decode cL_law 1098 = .ok (.iload_n 3, 1) := by decide +kernel
theorem dL_law_1099 : decode cL_law 1099 = .ok (.iconst 1, 1) := by decide +kernel
theorem dL_law_1100 : decode cL_law 1100 = .ok (.iadd, 1) := by decide +kernel
theorem dL_law_1101 : decode cL_law 1101 = .ok (.iaload, 1) := by decide +kernel
theorem dL_law_1102 : decode cL_law 1102 = .ok (.aload_n 0, 1) := by decide +kernel
theorem dL_law_1103 : decode cL_law 1103 = .ok (.iload_n 3, 1) := by decide +kernel
theorem dL_law_1104 : decode cL_law 1104 = .ok (.iconst 2, 1) := by decide +kernel
theorem dL_law_1105 : decode cL_law 1105 = .ok (.iadd, 1) := by decide +kernel
theorem dL_law_1106 : decode cL_law 1106 = .ok (.iaload, 1) := by decide +kernel
theorem dL_law_1107 : decode cL_law 1107 = .ok (.invokevirtual 136, 3) := by decide +kernel
theorem dL_law_1110 : decode cL_law 1110 = .ok (.if_icmp .eq 54, 3) := by decide +kernel
theorem dL_law_1113 : decode cL_law 1113 = .ok (.iconst 0, 1) := by decide +kernel
theorem dL_law_1114 : decode cL_law 1114 = .ok (.ireturn, 1) := by decide +kernel
theorem dL_law_1115 : decode cL_law 1115 = .ok (.aload_n 1, 1) := by decide +kernel
theorem dL_law_1116 : decode cL_law 1116 = .ok (.invokevirtual 137, 3) := by decide +kernel
theorem dL_law_1119 : decode cL_law 1119 = .ok (.aload_n 2, 1) := by decide +kernel
theorem dL_law_1120 : decode cL_law 1120 = .ok (.invokevirtual 140, 3) := by decide +kernel
theorem dL_law_1123 : decode cL_law 1123 = .ok (.if_icmp .eq 41, 3) := by decide +kernel
theorem dL_law_1126 : decode cL_law 1126 = .ok (.iconst 0, 1) := by decide +kernel
theorem dL_law_1127 : decode cL_law 1127 = .ok (.ireturn, 1) := by decide +kernel
theorem dL_law_1128 : decode cL_law 1128 = .ok (.aload_n 1, 1) := by decide +kernel
theorem dL_law_1129 : decode cL_law 1129 = .ok (.invokevirtual 141, 3) := by decide +kernel
theorem dL_law_1132 : decode cL_law 1132 = .ok (.aload_n 2, 1) := by decide +kernel
theorem dL_law_1133 : decode cL_law 1133 = .ok (.invokevirtual 144, 3) := by decide +kernel
theorem dL_law_1136 : decode cL_law 1136 = .ok (.if_icmp .eq 28, 3) := by decide +kernel
theorem dL_law_1139 : decode cL_law 1139 = .ok (.iconst 0, 1) := by decide +kernel
theorem dL_law_1140 : decode cL_law 1140 = .ok (.ireturn, 1) := by decide +kernel
theorem dL_law_1141 : decode cL_law 1141 = .ok (.aload_n 1, 1) := by decide +kernel
theorem dL_law_1142 : decode cL_law 1142 = .ok (.aload_n 0, 1) := by decide +kernel
theorem dL_law_1143 : decode cL_law 1143 = .ok (.iload_n 3, 1) := by decide +kernel
theorem dL_law_1144 : decode cL_law 1144 = .ok (.iconst 1, 1) := by decide +kernel
theorem dL_law_1145 : decode cL_law 1145 = .ok (.iadd, 1) := by decide +kernel
theorem dL_law_1146 : decode cL_law 1146 = .ok (.iaload, 1) := by decide +kernel
theorem dL_law_1147 : decode cL_law 1147 = .ok (.invokevirtual 145, 3) := by decide +kernel
theorem dL_law_1150 : decode cL_law 1150 = .ok (.aload_n 2, 1) := by decide +kernel
theorem dL_law_1151 : decode cL_law 1151 = .ok (.aload_n 0, 1) := by decide +kernel
theorem dL_law_1152 : decode cL_law 1152 = .ok (.iload_n 3, 1) := by decide +kernel
theorem dL_law_1153 : decode cL_law 1153 = .ok (.iconst 1, 1) := by decide +kernel
theorem dL_law_1154 : decode cL_law 1154 = .ok (.iadd, 1) := by decide +kernel
theorem dL_law_1155 : decode cL_law 1155 = .ok (.iaload, 1) := by decide +kernel
theorem dL_law_1156 : decode cL_law 1156 = .ok (.invokevirtual 148, 3) := by decide +kernel
theorem dL_law_1159 : decode cL_law 1159 = .ok (.if_icmp .eq 5, 3) := by decide +kernel
theorem dL_law_1162 : decode cL_law 1162 = .ok (.iconst 0, 1) := by decide +kernel
theorem dL_law_1163 : decode cL_law 1163 = .ok (.ireturn, 1) := by decide +kernel
theorem dL_law_1164 : decode cL_law 1164 = .ok (.iinc 3 6, 3) := by decide +kernel
theorem dL_law_1167 : decode cL_law 1167 = .ok (.goto (-1149), 3) := by decide +kernel
theorem dL_law_1170 : decode cL_law 1170 = .ok (.iconst 1, 1) := by decide +kernel
theorem dL_law_1171 : decode cL_law 1171 = .ok (.ireturn, 1) := by decide +kernel
end
section
/-! ===== my own rows above the kit: contexts, three kinds of contracts (pure, reading, writing), calls ===== -/
/-- words that don't ride in a word list: links of nest mates, casts, declarations, array classes -/
def NW (U : State) : Prop :=
  va_Nw (.methodLinkNest RX3 38 yX11_pairOf RX11) U ∧ va_Nw (.methodLinkNest RX5 11 yX11_pairOf RX11) U ∧
  va_Nw (.methodLinkNest RX5 47 yX11_contains RX11) U ∧ va_Nw (.methodLinkNest RX6 51 yX11_contains RX11) U ∧
  va_Nw (.methodLinkNest RX6 92 yX11_truth RX11) U ∧ va_Nw (.methodLinkNest RX6 59 yX11_pairOf RX11) U ∧
  va_Nw (.methodLinkNest RX0 29 yX11_contains RX11) U ∧ va_Nw (.methodLinkNest RX0 83 yX11_pairOf RX11) U ∧
  va_Nw (.methodLinkNest RX2 13 yX11_pairOf RX11) U ∧ va_Nw (.methodLinkNest RX2 7 yX11_contains RX11) U ∧
  va_Nw (.declares yX1_learntBy) U ∧ va_Nw (.declares yX1_plainTelling) U ∧
  va_Nw (.castable RX10 RX1) U ∧ va_Nw (.castable RX4 RX1) U ∧ va_AO RX7 U ∧ va_AO RX1 U
theorem NW.warm {s U : State} (hW : s.WarmedH U.vm) (h : NW s) : NW U := by
  obtain ⟨h0, h1, h2, h3, h4, h5, h6, h7, h8, h9, a0, a1, b0, b1, c0, c1⟩ := h
  exact ⟨h0.warmM hW, h1.warmM hW, h2.warmM hW, h3.warmM hW, h4.warmM hW, h5.warmM hW, h6.warmM hW, h7.warmM hW, h8.warmM hW, h9.warmM hW, a0.warmD hW, a1.warmD hW, b0.warmC hW, b1.warmC hW, c0.moved hW.alike, c1.moved hW.alike⟩
theorem NW.call {U : State} {g : JFrame} {mk : MethodId} {a : Array Value} (h : NW U) : NW (U.calling g mk a) := by
  obtain ⟨h0, h1, h2, h3, h4, h5, h6, h7, h8, h9, a0, a1, b0, b1, c0, c1⟩ := h
  have hv : U.vm = (U.calling g mk a).vm := rfl
  exact ⟨h0.same rfl hv, h1.same rfl hv, h2.same rfl hv, h3.same rfl hv, h4.same rfl hv, h5.same rfl hv, h6.same rfl hv, h7.same rfl hv, h8.same rfl hv, h9.same rfl hv, a0.same rfl hv, a1.same rfl hv, b0.same rfl hv, b1.same rfl hv, c0.moved (Vm.Alike.refl U.vm), c1.moved (Vm.Alike.refl U.vm)⟩
/-- class numbers, slots (va_G) and the numbers of the array classes: 0 byte[], 1 int[], 2 long[], 3 Sheet[], 4 Call[] -/
abbrev EE : Type := va_G × (Nat → ClassId)
abbrev tyE (E : EE) : List (ClassId × FieldType) := [(E.2 0, .byte), (E.2 1, .int), (E.2 2, .long), (E.2 3, .object RX7), (E.2 4, .object RX1)]
def KX (E : EE) (U : State) : Prop := NW U ∧ va_K E.1 vwCl (tyE E) U
theorem KX.warm {E : EE} {s U : State} (hW : s.WarmedH U.vm) (h : KX E s) : KX E U := ⟨h.1.warm hW, va_K.moved hW.alike h.2⟩
theorem KX.call {E : EE} {U : State} {g : JFrame} {mk : MethodId} {a : Array Value} (h : KX E U) : KX E (U.calling g mk a) := ⟨h.1.call, va_K.moved (u := U) (U := U.calling g mk a) (Vm.Alike.refl U.vm) h.2⟩
abbrev wX (y : MethodName) (b : ByteArray) (n : Nat) (r : Option FieldType) : List Cond := .code y b n r :: tG
theorem gd_X {y : MethodName} {b : ByteArray} {n : Nat} {r : Option FieldType} (h : Cond.code y b n r ∈ tG) : GoodIn tG (wX y b n r) := fun w hw => (List.mem_cons.mp hw).elim (fun e => by subst e; exact ⟨h, tG_good _ h⟩) (fun hw => ⟨hw, tG_good _ hw⟩)
/-- what a body's walk stands on -/
abbrev CX (p : Program) (s : State) (m : MethodId) (meth : Method) (c : Code) (args : Array Value) (cc : ByteArray) (nL : Nat) (ret : Option FieldType) (own : String) : Prop :=
  p.tables.exec = Jvm.exec ∧ c.code = cc ∧ meth.sig.returnType = ret ∧ (∀ w ∈ tG, w.before args s = true) ∧ s.vm.findClass own = some m.cls ∧ c.maxLocals = nL ∧ meth.locks = false ∧ NW s
/-- contracts: pure ones (no heap), reading ones (cells ws as they are), writing ones -/
def pz_P (av : List Value) : Array Value → State → Prop := fun v U => v = av.toArray ∧ NW U
def pz_Q (r : Option Value) : Array Value → State → Outcome → State → Prop := fun _ st oc t => oc = .returned r ∧ t.heap = st.heap
def pz_F : Addr → Prop := fun _ => False
def rd_P (E : EE) (ws : va_W) (av : List Value) : Array Value → State → Prop := fun v U => v = av.toArray ∧ KX E U ∧ va_P E.1 vwCl ws U.heap
def wr_P (E : EE) (ws : va_W) (sz : Nat) (av : List Value) : Array Value → State → Prop := fun v U => v = av.toArray ∧ KX E U ∧ U.heap.size = sz ∧ va_P E.1 vwCl ws U.heap ∧ va_D (fun _ => True) ws
def wr_Q (E : EE) (A : Nat → Prop) (Post : Option Value → va_W → Prop) : Array Value → State → Outcome → State → Prop := fun _ st oc t => (∃ (v : Option Value) (w1 : va_W), oc = .returned v ∧ Post v w1 ∧ va_P E.1 vwCl w1 t.heap ∧ va_D A w1) ∧ va_F A st t
abbrev Pz (l : Launch) (y : MethodName) (b : ByteArray) (n : Nat) (r : Option FieldType) (rm : Room) (av : List Value) (v : Option Value) : Prop := Met l y (wX y b n r) rm (pz_P av) (pz_Q v) 0 0 pz_F
abbrev Rd (l : Launch) (y : MethodName) (b : ByteArray) (n : Nat) (r : Option FieldType) (rm : Room) (E : EE) (ws : va_W) (av : List Value) (v : Option Value) : Prop := Met l y (wX y b n r) rm (rd_P E ws av) (pz_Q v) 0 0 pz_F
abbrev Wr (l : Launch) (y : MethodName) (b : ByteArray) (n : Nat) (r : Option FieldType) (rm : Room) (mc ms : Nat) (E : EE) (ws : va_W) (sz : Nat) (av : List Value) (Post : Option Value → va_W → Prop) : Prop := Met l y (wX y b n r) rm (wr_P E ws sz av) (wr_Q E (va_A ws sz) Post) mc ms (va_A ws sz)
theorem mk_pz {l : Launch} {y : MethodName} {cc : ByteArray} {nL : Nat} {ret : Option FieldType} {rm : Room} {av : List Value} {v : Option Value} (hy : plainName y.cls = true) (hlen : (lg_sl av).length ≤ nL)
    (body : ∀ (p : Program) (e : Env) (s : State) (m : MethodId) (args : Array Value) (below : List Frame) (meth : Method) (c : Code), CX p s m meth c args cc nL ret y.cls → ∀ ls : Array Slot, lv_has ls nL (lv_args 0 av) → W p l e rm s m args below meth c s.heap [] 0 0 (MQ below (pz_Q v) args s 0 0 pz_F) (F0 m 0 ls [])) : Pz l y cc nL ret rm av v := by
  refine Met.ofW (cc := cc) (maxL := nL) (ret := ret) hy rfl ?_
  intro p e s m args below meth c s₁ B hml hv
  obtain ⟨rfl, hN⟩ := hv
  have hl := lv_entry av hlen
  rw [lg_entry_eq]
  exact body p e s m _ below meth c ⟨B.exec, B.bytes, B.returns, fun w h => atoms_spec (ws := wX y cc nL ret) B.pre w (List.mem_cons_of_mem _ h), findClass_of_methodNamed B.named, hml, B.notSynchronized, hN⟩ _ hl
theorem mk_rd {l : Launch} {y : MethodName} {cc : ByteArray} {nL : Nat} {ret : Option FieldType} {rm : Room} {E : EE} {ws : va_W} {av : List Value} {v : Option Value} (hy : plainName y.cls = true) (hlen : (lg_sl av).length ≤ nL)
    (body : ∀ (p : Program) (e : Env) (s : State) (m : MethodId) (args : Array Value) (below : List Frame) (meth : Method) (c : Code), CX p s m meth c args cc nL ret y.cls → va_K E.1 vwCl (tyE E) s → va_P E.1 vwCl ws s.heap → ∀ ls : Array Slot, lv_has ls nL (lv_args 0 av) → W p l e rm s m args below meth c s.heap [] 0 0 (MQ below (pz_Q v) args s 0 0 pz_F) (F0 m 0 ls [])) : Rd l y cc nL ret rm E ws av v := by
  refine Met.ofW (cc := cc) (maxL := nL) (ret := ret) hy rfl ?_
  intro p e s m args below meth c s₁ B hml hv
  obtain ⟨rfl, hN, hP⟩ := hv
  have hl := lv_entry av hlen
  rw [lg_entry_eq]
  exact body p e s m _ below meth c ⟨B.exec, B.bytes, B.returns, fun w h => atoms_spec (ws := wX y cc nL ret) B.pre w (List.mem_cons_of_mem _ h), findClass_of_methodNamed B.named, hml, B.notSynchronized, hN.1⟩ hN.2 hP _ hl
theorem mk_wr {l : Launch} {y : MethodName} {cc : ByteArray} {nL : Nat} {ret : Option FieldType} {rm : Room} {mc ms : Nat} {E : EE} {ws : va_W} {sz : Nat} {av : List Value} {Post : Option Value → va_W → Prop} (hy : plainName y.cls = true) (hlen : (lg_sl av).length ≤ nL)
    (body : ∀ (p : Program) (e : Env) (s : State) (m : MethodId) (args : Array Value) (below : List Frame) (meth : Method) (c : Code), CX p s m meth c args cc nL ret y.cls → meth.name = y.name → va_K E.1 vwCl (tyE E) s → ∀ A : Nat → Prop, (∀ q : Nat, s.heap.size ≤ q → A q) → va_P E.1 vwCl ws s.heap → va_D A ws → va_S A s.heap s.heap [] → ∀ ls : Array Slot, lv_has ls nL (lv_args 0 av) → W p l e rm s m args below meth c s.heap [] 0 0 (MQ below (wr_Q E A Post) args s mc ms A) (F0 m 0 ls [])) : Wr l y cc nL ret rm mc ms E ws sz av Post := by
  refine Met.ofW (cc := cc) (maxL := nL) (ret := ret) hy rfl ?_
  intro p e s m args below meth c s₁ B hml hv
  obtain ⟨rfl, hN, rfl, hP, hD⟩ := hv
  have hl := lv_entry av hlen
  rw [lg_entry_eq]
  exact body p e s m _ below meth c ⟨B.exec, B.bytes, B.returns, fun w h => atoms_spec (ws := wX y cc nL ret) B.pre w (List.mem_cons_of_mem _ h), findClass_of_methodNamed B.named, hml, B.notSynchronized, hN.1⟩ (name_of_methodNamed B.named B.method).1 hN.2 _ (fun q h => Or.inr h) hP (hD.self (sz := s.heap.size)) va_S.rf _ hl
/-! what comes back of a call -/
section B1
variable {p : Program} {l : Launch} {e : Env} {R : Room} {s : State} {m : MethodId} {args : Array Value} {below : List Frame} {meth : Method} {c : Code} {H H0 : Heap} {locs : List Loc} {cells slots mc ms : Nat} {Q : State → Prop} {pc : Nat} {ls : Array Slot} {st0 rest : List Value} {a : Array Value}
theorem go_pz {v : Option Value} (hr : va_Run p l e R s m args below meth c H locs cells slots 0 0 (F0 m pc ls st0) rest (pz_Q v a) pz_F)
    (k : W p l e R s m args below meth c H locs cells slots Q (F0 m (pc + 3) ls (v.toList ++ rest))) : W p l e R s m args below meth c H locs cells slots Q (F0 m pc ls st0) := by
  intro T hT X
  obtain ⟨w, st₀, t, T', L, h0, X', hL, e1, e2, ⟨hv, hh⟩, st⟩ := hr T hT X
  cases hv
  have hLn : L = [] := by
    cases L with
    | nil => rfl
    | cons q L' => exact absurd (hL q List.mem_cons_self) (fun h => h)
  subst hLn
  rw [List.append_nil] at X'
  obtain ⟨t2, a1, b1⟩ := k T' (by rw [e1, hh, h0]) X'
  exact ⟨t2, st t2 a1, b1⟩
theorem va_D_apart {A : Nat → Prop} {X wc Y : va_W} (hD : va_D A (X ++ (wc ++ Y))) : (∀ q ∈ X, ∀ r ∈ wc, q.1 ≠ r.1) ∧ (∀ q ∈ Y, ∀ r ∈ wc, q.1 ≠ r.1) ∧ (∀ q ∈ X, ∀ r ∈ Y, q.1 ≠ r.1) := by
  have gl : ∀ (i : Nat) (q : Nat × va_E), X[i]? = some q → (X ++ (wc ++ Y))[i]? = some q := fun i q h => by
    rw [List.getElem?_append_left (List.getElem?_eq_some_iff.mp h).1]; exact h
  have gc : ∀ (i : Nat) (q : Nat × va_E), wc[i]? = some q → (X ++ (wc ++ Y))[X.length + i]? = some q := fun i q h => by
    rw [List.getElem?_append_right (by omega), show X.length + i - X.length = i by omega, List.getElem?_append_left (List.getElem?_eq_some_iff.mp h).1]; exact h
  have gy : ∀ (i : Nat) (q : Nat × va_E), Y[i]? = some q → (X ++ (wc ++ Y))[X.length + (wc.length + i)]? = some q := fun i q h => by
    rw [List.getElem?_append_right (by omega), show X.length + (wc.length + i) - X.length = wc.length + i by omega, List.getElem?_append_right (by omega), show wc.length + i - wc.length = i by omega]; exact h
  refine ⟨fun q hq r hr e => ?_, fun q hq r hr e => ?_, fun q hq r hr e => ?_⟩
  · obtain ⟨i, hi⟩ := List.getElem?_of_mem hq
    obtain ⟨j, hj⟩ := List.getElem?_of_mem hr
    have := hD.1 _ _ q r (gl i q hi) (gc j r hj) e
    have := (List.getElem?_eq_some_iff.mp hi).1
    omega
  · obtain ⟨i, hi⟩ := List.getElem?_of_mem hq
    obtain ⟨j, hj⟩ := List.getElem?_of_mem hr
    have := hD.1 _ _ q r (gy i q hi) (gc j r hj) e
    have := (List.getElem?_eq_some_iff.mp hj).1
    omega
  · obtain ⟨i, hi⟩ := List.getElem?_of_mem hq
    obtain ⟨j, hj⟩ := List.getElem?_of_mem hr
    have := hD.1 _ _ q r (gl i q hi) (gy j r hj) e
    have := (List.getElem?_eq_some_iff.mp hi).1
    omega
theorem va_P_mem {D : va_G} {cl : List vw_C} {ws : va_W} {H : Heap} : va_P D cl ws H ↔ ∀ q ∈ ws, va_at D cl q H := ⟨fun h q hq => by obtain ⟨i, hi⟩ := List.getElem?_of_mem hq; exact h i q hi, fun h _ q hk => h q (List.mem_of_getElem? hk)⟩
theorem va_D_sub {A : Nat → Prop} {ws w2 : va_W} (h : va_D A ws) (f : Nat → Nat) (hf : ∀ i j, f i = f j → i = j) (hw : ∀ i q, w2[i]? = some q → ws[f i]? = some q) : va_D A w2 :=
  ⟨fun i j p q hi hj e => hf i j (h.1 _ _ p q (hw i p hi) (hw j q hj) e), fun k q hk => h.2 _ q (hw k q hk)⟩
theorem va_D_l {A : Nat → Prop} {X Y : va_W} (h : va_D A (X ++ Y)) : va_D A X := va_D_sub h (fun i => i) (fun _ _ e => e) (fun i q hi => by rw [List.getElem?_append_left (List.getElem?_eq_some_iff.mp hi).1]; exact hi)
theorem va_D_r {A : Nat → Prop} {X Y : va_W} (h : va_D A (X ++ Y)) : va_D A Y := va_D_sub h (fun i => X.length + i) (fun _ _ e => by omega) (fun i q hi => by rw [List.getElem?_append_right (by omega), show X.length + i - X.length = i by omega]; exact hi)
theorem va_P_l {D : va_G} {cl : List vw_C} {X Y : va_W} {H : Heap} (h : va_P D cl (X ++ Y) H) : va_P D cl X H := va_P_mem.mpr fun q hq => va_P_mem.mp h q (List.mem_append_left _ hq)
theorem va_P_r {D : va_G} {cl : List vw_C} {X Y : va_W} {H : Heap} (h : va_P D cl (X ++ Y) H) : va_P D cl Y H := va_P_mem.mpr fun q hq => va_P_mem.mp h q (List.mem_append_right _ hq)
/-- the frame rule, in place: what comes back stands where the callee's cells stood -/
theorem fr_in {A : Nat → Prop} {D : va_G} {cl : List vw_C} {X wc Y w1 : va_W} {H H1 : Heap} (hP : va_P D cl (X ++ (wc ++ Y)) H) (hD : va_D A (X ++ (wc ++ Y))) (hk : ∀ q : Nat, q < H.size → ¬ va_A wc H.size q → H1[q]? = H[q]?) (hF : ∀ q, va_A wc H.size q → A q) (hP1 : va_P D cl w1 H1) (hD1 : va_D (va_A wc H.size) w1) :
    va_P D cl (X ++ (w1 ++ Y)) H1 ∧ va_D A (X ++ (w1 ++ Y)) := by
  obtain ⟨ax, ay, axy⟩ := va_D_apart hD
  have hX := va_P_l hP
  have hY := va_P_r (va_P_r hP)
  have nX : ∀ q ∈ X, ¬ va_A wc H.size q.1 := fun q hq h => by
    rcases h with ⟨k, e, hk⟩ | h
    · exact ax q hq _ (List.mem_of_getElem? hk) rfl
    · exact absurd (va_P_mem.mp hX q hq).lt (by omega)
  have nY : ∀ q ∈ Y, ¬ va_A wc H.size q.1 := fun q hq h => by
    rcases h with ⟨k, e, hk⟩ | h
    · exact ay q hq _ (List.mem_of_getElem? hk) rfl
    · exact absurd (va_P_mem.mp hY q hq).lt (by omega)
  have h1A : ∀ q ∈ w1, va_A wc H.size q.1 := fun q hq => by obtain ⟨i, hi⟩ := List.getElem?_of_mem hq; exact hD1.2 i q hi
  refine ⟨?_, ?_⟩
  · refine va_P.app (va_P_mem.mpr fun q hq => (va_P_mem.mp hX q hq).kept (hk _ (va_P_mem.mp hX q hq).lt (nX q hq))) (va_P.app hP1 (va_P_mem.mpr fun q hq => (va_P_mem.mp hY q hq).kept (hk _ (va_P_mem.mp hY q hq).lt (nY q hq))))
  · refine va_D.app (va_D_l hD) (va_D.app (hD1.weaken (fun _ _ _ h => hF _ h)) (va_D_r (va_D_r hD)) (fun i j p q hi hj e => nY q (List.mem_of_getElem? hj) (e ▸ h1A p (List.mem_of_getElem? hi)))) (fun i j p q hi hj e => ?_)
    rcases List.mem_append.mp (List.mem_of_getElem? hj) with h | h
    · exact nX p (List.mem_of_getElem? hi) (e ▸ h1A q h)
    · exact axy p (List.mem_of_getElem? hi) q h e
end B1
end
section
section B2
variable {p : Program} {l : Launch} {e : Env} {R : Room} {s : State} {m : MethodId} {args : Array Value} {below : List Frame} {meth : Method} {c : Code} {H H0 : Heap} {locs : List Loc} {cells slots mc ms : Nat} {Q : State → Prop} {pc : Nat} {ls : Array Slot} {st0 rest : List Value} {a : Array Value}
  {cc : ByteArray} {nL : Nat} {ret0 : Option FieldType} {own : String} {idx n mL : Nat} {y : MethodName} {b : ByteArray} {ret : Option FieldType} {rm : Room} {E : EE} {A : Nat → Prop}
/-- a writing callee: its cells wc stand at X ++ (wc ++ Y) -/
theorem go_wr {X wc Y ws : va_W} {Post : Option Value → va_W → Prop} (hr : va_Run p l e R s m args below meth c H locs cells slots mc ms (F0 m pc ls st0) rest (wr_Q E (va_A wc H.size) Post a) (va_A wc H.size))
    (hP : va_P E.1 vwCl ws H) (hD : va_D A ws) (hS : va_S A H0 H locs) (hA : ∀ q : Nat, H0.size ≤ q → A q) (hw : ws = X ++ (wc ++ Y))
    (kk : ∀ (v : Option Value) (w1 : va_W) (H1 : Heap) (locs1 : List Loc), Post v w1 → va_P E.1 vwCl (X ++ (w1 ++ Y)) H1 → va_D A (X ++ (w1 ++ Y)) → va_S A H0 H1 locs1 → W p l e R s m args below meth c H1 locs1 (cells + mc) (slots + ms) Q (F0 m (pc + 3) ls (v.toList ++ rest))) : W p l e R s m args below meth c H locs cells slots Q (F0 m pc ls st0) := by
  subst hw
  have hF : ∀ q, va_A wc H.size q → A q := fun q h => by
    rcases h with ⟨k, e, hk⟩ | h
    · exact (va_D_l (va_D_r hD)).2 k _ hk
    · exact hA q (Nat.le_trans hS.1 h)
  intro T hT XX
  obtain ⟨w, st₀, t, T', L, h0, X', hL, e1, e2, ⟨⟨v, w1, hv, hp, hP1, hD1⟩, hz, hk⟩, st⟩ := hr T hT XX
  cases hv
  rw [h0] at hz hk
  rw [← e1] at hP1 hz hk
  obtain ⟨hP2, hD2⟩ := fr_in hP hD hk hF hP1 hD1
  obtain ⟨t2, a1, b1⟩ := kk w w1 T'.heap (locs ++ L) hp hP2 hD2 ⟨Nat.le_trans hS.1 hz, fun q h1 h2 => by rw [hk q (Nat.lt_of_lt_of_le h1 hS.1) (fun z => h2 (hF q z))]; exact hS.2.1 q h1 h2, fun q hq => by
      rcases List.mem_append.mp hq with h | h
      · exact hS.2.2 q h
      · exact hF _ (hL q h)⟩ T' rfl X'
  exact ⟨t2, st t2 a1, b1⟩
/-- what is always said of a method that is called: static ones, instance ones (n arguments beside this) -/
abbrev SY (y : MethodName) (b : ByteArray) (mL : Nat) (ret : Option FieldType) (n : Nat) : Prop := Cond.static y ∈ tG ∧ Cond.initialized y.cls ∈ tG ∧ Cond.code y b mL ret ∈ tG ∧ (y.cls ≠ "java/lang/invoke/MethodHandle" ∧ y.cls ≠ "java/lang/invoke/VarHandle" ∧ (parseMethodDescriptor y.desc).map (fun d => d.parameters.length) = some n)
abbrev IY (y : MethodName) (b : ByteArray) (mL : Nat) (ret : Option FieldType) (n : Nat) : Prop := Cond.instanceMethod y ∈ tG ∧ Cond.selects y.cls y y ∈ tG ∧ Cond.initialized y.cls ∈ tG ∧ Cond.code y b mL ret ∈ tG ∧ (y.cls ≠ "java/lang/invoke/MethodHandle" ∧ y.cls ≠ "java/lang/invoke/VarHandle" ∧ (parseMethodDescriptor y.desc).map (fun d => d.parameters.length) = some n)
abbrev NY (y : MethodName) (b : ByteArray) (mL : Nat) (n : Nat) : Prop := Cond.instanceMethod y ∈ tG ∧ y.name = "<init>" ∧ Cond.initialized y.cls ∈ tG ∧ Cond.code y b mL none ∈ tG ∧ (y.cls ≠ "java/lang/invoke/MethodHandle" ∧ y.cls ≠ "java/lang/invoke/VarHandle" ∧ (parseMethodDescriptor y.desc).map (fun d => d.parameters.length) = some n)
abbrev RM (rm : Room) (mL : Nat) (R : Room) : Prop := rm.frames + 1 ≤ R.frames ∧ 8 + (mL + 11) + rm.locals ≤ R.locals
variable {Pc : Array Value → State → Prop} {Qc : Array Value → State → Outcome → State → Prop} {free : Addr → Prop} {As : List Value} {o : Addr}
theorem run_S (hC : CX p s m meth c args cc nL ret0 own) (hM : Met l y (wX y b mL ret) rm Pc Qc mc ms free) (hl : Cond.methodLink own idx y ∈ tG) (hy : SY y b mL ret n) (hR : RM rm mL R) (hm : rm.cells = mc ∧ rm.slots = ms) (hp : PreS s H Pc As) (hn : As.length = n) (hsz : ls.size = nL) (hst : st0 = As.reverse ++ rest) (hw : (rest.map fun v => v.category).sum ≤ 8) (hdg : decode cc pc = .ok (.invokestatic idx, 3)) (hf : cells + mc ≤ R.cells ∧ slots + ms ≤ R.slots) :
    va_Run p l e R s m args below meth c H locs cells slots mc ms (F0 m pc ls st0) rest (Qc As.toArray) free := by
  obtain ⟨hx, hb, hr, hts, hown, hml, hlk, hN⟩ := hC
  obtain ⟨h1, h2, h3, hd⟩ := hy
  exact va_runS ⟨hx, hb, hml, hown, hts⟩ hM ⟨callB_of n hts (gd_X h3) rfl hm.1 hm.2 (hts _ h2) (hts _ hl) hd hR, hts _ h1⟩ hp rfl hn hsz hst (lv_room hw) hdg hf
theorem run_SN {host : String} (hC : CX p s m meth c args cc nL ret0 own) (hM : Met l y (wX y b mL ret) rm Pc Qc mc ms free) (hl : va_Nw (.methodLinkNest own idx y host) s) (hy : SY y b mL ret n) (hR : RM rm mL R) (hm : rm.cells = mc ∧ rm.slots = ms) (hp : PreS s H Pc As) (hn : As.length = n) (hsz : ls.size = nL) (hst : st0 = As.reverse ++ rest) (hw : (rest.map fun v => v.category).sum ≤ 8) (hdg : decode cc pc = .ok (.invokestatic idx, 3)) (hf : cells + mc ≤ R.cells ∧ slots + ms ≤ R.slots) :
    va_Run p l e R s m args below meth c H locs cells slots mc ms (F0 m pc ls st0) rest (Qc As.toArray) free := by
  obtain ⟨hx, hb, hr, hts, hown, hml, hlk, hN⟩ := hC
  obtain ⟨h1, h2, h3, hd⟩ := hy
  exact va_runSN ⟨hx, hb, hml, hown, hts⟩ hM ⟨va_cnB n hts (gd_X h3) rfl hm.1 hm.2 hl (hts _ h2) hd hR, hts _ h1, trivial⟩ hp rfl hn hsz hst (lv_room hw) hdg hf
theorem run_V (hC : CX p s m meth c args cc nL ret0 own) (hM : Met l y (wX y b mL ret) rm Pc Qc mc ms free) (hl : Cond.methodLink own idx y ∈ tG) (hy : IY y b mL ret n) (hR : RM rm mL R) (hm : rm.cells = mc ∧ rm.slots = ms) (hp : PreV s H y.cls o Pc As) (hn : As.length = n) (hsz : ls.size = nL) (hst : st0 = As.reverse ++ .ref o :: rest) (hw : (rest.map fun v => v.category).sum ≤ 8) (hdg : decode cc pc = .ok (.invokevirtual idx, 3)) (hf : cells + mc ≤ R.cells ∧ slots + ms ≤ R.slots) :
    va_Run p l e R s m args below meth c H locs cells slots mc ms (F0 m pc ls st0) rest (Qc (Value.ref o :: As).toArray) free := by
  obtain ⟨hx, hb, hr, hts, hown, hml, hlk, hN⟩ := hC
  obtain ⟨h0, h1, h2, h3, hd⟩ := hy
  exact va_runV ⟨hx, hb, hml, hown, hts⟩ hM ⟨callB_of n hts (gd_X h3) rfl hm.1 hm.2 (hts _ h2) (hts _ hl) hd hR, hts _ h0, hts _ h1⟩ hp rfl hn hsz hst (lv_room hw) hdg hf
theorem run_I (hC : CX p s m meth c args cc nL ret0 own) (hM : Met l y (wX y b mL none) rm Pc Qc mc ms free) (hl : Cond.methodLink own idx y ∈ tG) (hy : NY y b mL n) (hR : RM rm mL R) (hm : rm.cells = mc ∧ rm.slots = ms) (hp : PreS s H Pc (.ref o :: As)) (hn : As.length = n) (hsz : ls.size = nL) (hst : st0 = As.reverse ++ .ref o :: rest) (hw : (rest.map fun v => v.category).sum ≤ 8) (hdg : decode cc pc = .ok (.invokespecial idx, 3)) (hf : cells + mc ≤ R.cells ∧ slots + ms ≤ R.slots) :
    va_Run p l e R s m args below meth c H locs cells slots mc ms (F0 m pc ls st0) rest (Qc (Value.ref o :: As).toArray) free := by
  obtain ⟨hx, hb, hr, hts, hown, hml, hlk, hN⟩ := hC
  obtain ⟨h0, h1, h2, h3, hd⟩ := hy
  exact va_runI ⟨hx, hb, hml, hown, hts⟩ hM ⟨callB_of n hts (gd_X h3) rfl hm.1 hm.2 (hts _ h2) (hts _ hl) hd hR, h1, hts _ h0⟩ hp rfl hn hsz hst (lv_room hw) hdg hf
theorem pre_pz {av : List Value} (hN : NW s) : PreS s H (pz_P av) av := ⟨fun _ _ _ _ h => ⟨h.1, h.2.call⟩, fun _ _ hW => ⟨rfl, hN.warm hW⟩⟩
theorem pre_rd {ws : va_W} {av : List Value} (hN : NW s) (hK : va_K E.1 vwCl (tyE E) s) (hP : va_P E.1 vwCl ws H) : PreS s H (rd_P E ws av) av := ⟨fun _ _ _ _ h => ⟨h.1, h.2.1.call, h.2.2⟩, fun _ hU hW => ⟨rfl, KX.warm hW ⟨hN, hK⟩, by rw [hU]; exact hP⟩⟩
theorem pre_wr {ws : va_W} {av : List Value} (hN : NW s) (hK : va_K E.1 vwCl (tyE E) s) (hP : va_P E.1 vwCl ws H) (hD : va_D A ws) : PreS s H (wr_P E ws H.size av) av := ⟨fun _ _ _ _ h => ⟨h.1, h.2.1.call, h.2.2⟩, fun _ hU hW => ⟨rfl, KX.warm hW ⟨hN, hK⟩, by rw [hU], by rw [hU]; exact hP, hD.weaken (fun _ _ _ _ => trivial)⟩⟩
theorem preV {C : String} (h : PreS s H Pc (.ref o :: As)) (hr : ∃ cell : Cell, H[o]? = some cell ∧ cell.vm.isStatics = false ∧ s.vm.findClass C = some cell.cls) : PreV s H C o Pc As := ⟨h.1, hr, h.2⟩
/-- a receiver: the first cell of ws is an object of class number ci -/
theorem recv0 {q0 ci : Nat} {r : vw_C} {fs : List Value} {ws : va_W} (hK : va_K E.1 vwCl (tyE E) s) (hP : va_P E.1 vwCl ws H) (hc : vwCl[ci]? = some r) (he : ws[q0]? = some (o, .inr (ci, fs))) : ∃ cell : Cell, H[o]? = some cell ∧ cell.vm.isStatics = false ∧ s.vm.findClass r.1 = some cell.cls := va_recv hK hP hc he
/-! calls, in one row each -/
/-- static, pure -/
theorem cS_pz {av : List Value} {v : Option Value} (hC : CX p s m meth c args cc nL ret0 own) (hM : Pz l y b mL ret rm av v) (hl : Cond.methodLink own idx y ∈ tG) (hy : SY y b mL ret n) (hR : RM rm mL R) (hm : rm.cells = 0 ∧ rm.slots = 0) (hn : av.length = n) (hsz : ls.size = nL) (hst : st0 = av.reverse ++ rest) (hw : (rest.map fun v => v.category).sum ≤ 8) (hdg : decode cc pc = .ok (.invokestatic idx, 3)) (hf : cells ≤ R.cells ∧ slots ≤ R.slots)
    (k : W p l e R s m args below meth c H locs cells slots Q (F0 m (pc + 3) ls (v.toList ++ rest))) : W p l e R s m args below meth c H locs cells slots Q (F0 m pc ls st0) :=
  go_pz (run_S hC hM hl hy hR hm (pre_pz hC.2.2.2.2.2.2.2) hn hsz hst hw hdg hf) k
/-- static of the nest host, pure -/
theorem cN_pz {host : String} {av : List Value} {v : Option Value} (hC : CX p s m meth c args cc nL ret0 own) (hM : Pz l y b mL ret rm av v) (hl : va_Nw (.methodLinkNest own idx y host) s) (hy : SY y b mL ret n) (hR : RM rm mL R) (hm : rm.cells = 0 ∧ rm.slots = 0) (hn : av.length = n) (hsz : ls.size = nL) (hst : st0 = av.reverse ++ rest) (hw : (rest.map fun v => v.category).sum ≤ 8) (hdg : decode cc pc = .ok (.invokestatic idx, 3)) (hf : cells ≤ R.cells ∧ slots ≤ R.slots)
    (k : W p l e R s m args below meth c H locs cells slots Q (F0 m (pc + 3) ls (v.toList ++ rest))) : W p l e R s m args below meth c H locs cells slots Q (F0 m pc ls st0) :=
  go_pz (run_SN hC hM hl hy hR hm (pre_pz hC.2.2.2.2.2.2.2) hn hsz hst hw hdg hf) k
/-- static, reading cells -/
theorem cS_rd {ws : va_W} {av : List Value} {v : Option Value} (hC : CX p s m meth c args cc nL ret0 own) (hM : Rd l y b mL ret rm E ws av v) (hl : Cond.methodLink own idx y ∈ tG) (hy : SY y b mL ret n) (hR : RM rm mL R) (hm : rm.cells = 0 ∧ rm.slots = 0) (hK : va_K E.1 vwCl (tyE E) s) (hP : va_P E.1 vwCl ws H) (hn : av.length = n) (hsz : ls.size = nL) (hst : st0 = av.reverse ++ rest) (hw : (rest.map fun v => v.category).sum ≤ 8) (hdg : decode cc pc = .ok (.invokestatic idx, 3)) (hf : cells ≤ R.cells ∧ slots ≤ R.slots)
    (k : W p l e R s m args below meth c H locs cells slots Q (F0 m (pc + 3) ls (v.toList ++ rest))) : W p l e R s m args below meth c H locs cells slots Q (F0 m pc ls st0) :=
  go_pz (run_S hC hM hl hy hR hm (pre_rd hC.2.2.2.2.2.2.2 hK hP) hn hsz hst hw hdg hf) k
/-- of an object, reading cells: the object stands at place q0 of ws -/
theorem cV_rd {ws : va_W} {av : List Value} {v : Option Value} (hC : CX p s m meth c args cc nL ret0 own) (hM : Rd l y b mL ret rm E ws (.ref o :: av) v) (hl : Cond.methodLink own idx y ∈ tG) (hy : IY y b mL ret n) (hR : RM rm mL R) (hm : rm.cells = 0 ∧ rm.slots = 0) (hK : va_K E.1 vwCl (tyE E) s) (hP : va_P E.1 vwCl ws H) (hrc : ∃ cell : Cell, H[o]? = some cell ∧ cell.vm.isStatics = false ∧ s.vm.findClass y.cls = some cell.cls) (hn : av.length = n) (hsz : ls.size = nL) (hst : st0 = av.reverse ++ .ref o :: rest) (hw : (rest.map fun v => v.category).sum ≤ 8) (hdg : decode cc pc = .ok (.invokevirtual idx, 3)) (hf : cells ≤ R.cells ∧ slots ≤ R.slots)
    (k : W p l e R s m args below meth c H locs cells slots Q (F0 m (pc + 3) ls (v.toList ++ rest))) : W p l e R s m args below meth c H locs cells slots Q (F0 m pc ls st0) :=
  go_pz (run_V hC hM hl hy hR hm (preV (pre_rd hC.2.2.2.2.2.2.2 hK hP) hrc) hn hsz hst hw hdg hf) k
/-- of an object, writing -/
theorem cV_wr {X wc Y ws : va_W} {av : List Value} {Post : Option Value → va_W → Prop} (hC : CX p s m meth c args cc nL ret0 own) (hM : Wr l y b mL ret rm mc ms E wc H.size (.ref o :: av) Post) (hl : Cond.methodLink own idx y ∈ tG) (hy : IY y b mL ret n) (hR : RM rm mL R) (hm : rm.cells = mc ∧ rm.slots = ms) (hK : va_K E.1 vwCl (tyE E) s) (hP : va_P E.1 vwCl ws H) (hD : va_D A ws) (hS : va_S A H0 H locs) (hA : ∀ q : Nat, H0.size ≤ q → A q) (hws : ws = X ++ (wc ++ Y)) (hrc : ∃ cell : Cell, H[o]? = some cell ∧ cell.vm.isStatics = false ∧ s.vm.findClass y.cls = some cell.cls) (hn : av.length = n) (hsz : ls.size = nL) (hst : st0 = av.reverse ++ .ref o :: rest) (hw : (rest.map fun v => v.category).sum ≤ 8) (hdg : decode cc pc = .ok (.invokevirtual idx, 3)) (hf : cells + mc ≤ R.cells ∧ slots + ms ≤ R.slots)
    (kk : ∀ (v : Option Value) (w1 : va_W) (H1 : Heap) (locs1 : List Loc), Post v w1 → va_P E.1 vwCl (X ++ (w1 ++ Y)) H1 → va_D A (X ++ (w1 ++ Y)) → va_S A H0 H1 locs1 → W p l e R s m args below meth c H1 locs1 (cells + mc) (slots + ms) Q (F0 m (pc + 3) ls (v.toList ++ rest))) : W p l e R s m args below meth c H locs cells slots Q (F0 m pc ls st0) :=
  go_wr (run_V hC hM hl hy hR hm (preV (pre_wr hC.2.2.2.2.2.2.2 hK (va_P_l (va_P_r (hws ▸ hP))) (va_D_l (va_D_r (hws ▸ hD)))) hrc) hn hsz hst hw hdg hf) hP hD hS hA hws kk
/-- static, writing -/
theorem cS_wr {X wc Y ws : va_W} {av : List Value} {Post : Option Value → va_W → Prop} (hC : CX p s m meth c args cc nL ret0 own) (hM : Wr l y b mL ret rm mc ms E wc H.size av Post) (hl : Cond.methodLink own idx y ∈ tG) (hy : SY y b mL ret n) (hR : RM rm mL R) (hm : rm.cells = mc ∧ rm.slots = ms) (hK : va_K E.1 vwCl (tyE E) s) (hP : va_P E.1 vwCl ws H) (hD : va_D A ws) (hS : va_S A H0 H locs) (hA : ∀ q : Nat, H0.size ≤ q → A q) (hws : ws = X ++ (wc ++ Y)) (hn : av.length = n) (hsz : ls.size = nL) (hst : st0 = av.reverse ++ rest) (hw : (rest.map fun v => v.category).sum ≤ 8) (hdg : decode cc pc = .ok (.invokestatic idx, 3)) (hf : cells + mc ≤ R.cells ∧ slots + ms ≤ R.slots)
    (kk : ∀ (v : Option Value) (w1 : va_W) (H1 : Heap) (locs1 : List Loc), Post v w1 → va_P E.1 vwCl (X ++ (w1 ++ Y)) H1 → va_D A (X ++ (w1 ++ Y)) → va_S A H0 H1 locs1 → W p l e R s m args below meth c H1 locs1 (cells + mc) (slots + ms) Q (F0 m (pc + 3) ls (v.toList ++ rest))) : W p l e R s m args below meth c H locs cells slots Q (F0 m pc ls st0) :=
  go_wr (run_S hC hM hl hy hR hm (pre_wr hC.2.2.2.2.2.2.2 hK (va_P_l (va_P_r (hws ▸ hP))) (va_D_l (va_D_r (hws ▸ hD)))) hn hsz hst hw hdg hf) hP hD hS hA hws kk
/-- a constructor -/
theorem cI_wr {X wc Y ws : va_W} {av : List Value} {Post : Option Value → va_W → Prop} (hC : CX p s m meth c args cc nL ret0 own) (hM : Wr l y b mL none rm mc ms E wc H.size (.ref o :: av) Post) (hl : Cond.methodLink own idx y ∈ tG) (hy : NY y b mL n) (hR : RM rm mL R) (hm : rm.cells = mc ∧ rm.slots = ms) (hK : va_K E.1 vwCl (tyE E) s) (hP : va_P E.1 vwCl ws H) (hD : va_D A ws) (hS : va_S A H0 H locs) (hA : ∀ q : Nat, H0.size ≤ q → A q) (hws : ws = X ++ (wc ++ Y)) (hn : av.length = n) (hsz : ls.size = nL) (hst : st0 = av.reverse ++ .ref o :: rest) (hw : (rest.map fun v => v.category).sum ≤ 8) (hdg : decode cc pc = .ok (.invokespecial idx, 3)) (hf : cells + mc ≤ R.cells ∧ slots + ms ≤ R.slots)
    (kk : ∀ (v : Option Value) (w1 : va_W) (H1 : Heap) (locs1 : List Loc), Post v w1 → va_P E.1 vwCl (X ++ (w1 ++ Y)) H1 → va_D A (X ++ (w1 ++ Y)) → va_S A H0 H1 locs1 → W p l e R s m args below meth c H1 locs1 (cells + mc) (slots + ms) Q (F0 m (pc + 3) ls (v.toList ++ rest))) : W p l e R s m args below meth c H locs cells slots Q (F0 m pc ls st0) :=
  go_wr (run_I hC hM hl hy hR hm (pre_wr hC.2.2.2.2.2.2.2 hK (va_P_l (va_P_r (hws ▸ hP))) (va_D_l (va_D_r (hws ▸ hD)))) hn hsz hst hw hdg hf) hP hD hS hA hws kk
/-! returns -/
theorem rz_i {v : Int32} {ty : FieldType} {pc : Nat} {ls : Array Slot} (hC : CX p s m meth c args cc nL (some ty) own) (hn : narrow ty (.int v) = .int v) (hdg : decode cc pc = .ok (.ireturn, 1)) : W p l e R s m args below meth c s.heap [] 0 0 (MQ below (pz_Q (some (.int v))) args s 0 0 pz_F) (F0 m pc ls [.int v]) :=
  W.zret hC.1 hC.2.1 hC.2.2.1 hn (fun _ ht _ => ⟨rfl, ht⟩) (fun _ h => absurd h List.not_mem_nil) hdg (hlocks := hC.2.2.2.2.2.2.1)
theorem rz_l {v : Int64} {pc : Nat} {ls : Array Slot} (hC : CX p s m meth c args cc nL (some .long) own) (hdg : decode cc pc = .ok (.lreturn, 1)) : W p l e R s m args below meth c s.heap [] 0 0 (MQ below (pz_Q (some (.long v))) args s 0 0 pz_F) (F0 m pc ls [.long v]) :=
  W.lret hC.1 hC.2.1 hC.2.2.1 (fun _ ht _ => ⟨rfl, ht⟩) (fun _ h => absurd h List.not_mem_nil) hdg (hlocks := hC.2.2.2.2.2.2.1)
theorem rw_i {v : Int32} {ty : FieldType} {pc : Nat} {ls : Array Slot} {Post : Option Value → va_W → Prop} {w1 : va_W} (hC : CX p s m meth c args cc nL (some ty) own) (hn : narrow ty (.int v) = .int v) (hP : va_P E.1 vwCl w1 H) (hD : va_D A w1) (hS : va_S A s.heap H locs) (hpost : Post (some (.int v)) w1) (hdg : decode cc pc = .ok (.ireturn, 1)) (hc : cells ≤ mc) (hs : slots ≤ ms) : W p l e R s m args below meth c H locs cells slots (MQ below (wr_Q E A Post) args s mc ms A) (F0 m pc ls [.int v]) :=
  W.widen hc hs (W.zret hC.1 hC.2.1 hC.2.2.1 hn (fun _ ht _ => ⟨⟨_, w1, rfl, hpost, by rw [ht]; exact hP, hD⟩, hS.F ht⟩) hS.2.2 hdg (hlocks := hC.2.2.2.2.2.2.1))
theorem rw_l {v : Int64} {pc : Nat} {ls : Array Slot} {Post : Option Value → va_W → Prop} {w1 : va_W} (hC : CX p s m meth c args cc nL (some .long) own) (hP : va_P E.1 vwCl w1 H) (hD : va_D A w1) (hS : va_S A s.heap H locs) (hpost : Post (some (.long v)) w1) (hdg : decode cc pc = .ok (.lreturn, 1)) (hc : cells ≤ mc) (hs : slots ≤ ms) : W p l e R s m args below meth c H locs cells slots (MQ below (wr_Q E A Post) args s mc ms A) (F0 m pc ls [.long v]) :=
  W.widen hc hs (W.lret hC.1 hC.2.1 hC.2.2.1 (fun _ ht _ => ⟨⟨_, w1, rfl, hpost, by rw [ht]; exact hP, hD⟩, hS.F ht⟩) hS.2.2 hdg (hlocks := hC.2.2.2.2.2.2.1))
theorem rw_v {pc : Nat} {ls : Array Slot} {Post : Option Value → va_W → Prop} {w1 : va_W} (hC : CX p s m meth c args cc nL none own) (hP : va_P E.1 vwCl w1 H) (hD : va_D A w1) (hS : va_S A s.heap H locs) (hpost : Post none w1) (hdg : decode cc pc = .ok (.return_, 1)) (hc : cells ≤ mc) (hs : slots ≤ ms) : W p l e R s m args below meth c H locs cells slots (MQ below (wr_Q E A Post) args s mc ms A) (F0 m pc ls []) :=
  W.widen hc hs (W.vret hC.1 hC.2.1 hC.2.2.1 (fun _ ht _ => ⟨⟨_, w1, rfl, hpost, by rw [ht]; exact hP, hD⟩, hS.F ht⟩) hS.2.2 hdg (hlocks := hC.2.2.2.2.2.2.1))
theorem rw_a {v : Value} {rt : FieldType} {pc : Nat} {ls : Array Slot} {Post : Option Value → va_W → Prop} {w1 : va_W} (hC : CX p s m meth c args cc nL (some rt) own) (hrt : (∃ n, rt = .object n) ∨ ∃ t, rt = .array t) (hv : v = .null ∨ ∃ a, v = .ref a) (hP : va_P E.1 vwCl w1 H) (hD : va_D A w1) (hS : va_S A s.heap H locs) (hpost : Post (some v) w1) (hdg : decode cc pc = .ok (.areturn, 1)) (hc : cells ≤ mc) (hs : slots ≤ ms) : W p l e R s m args below meth c H locs cells slots (MQ below (wr_Q E A Post) args s mc ms A) (F0 m pc ls [v]) :=
  W.widen hc hs (W.aret hC.1 hC.2.1 hC.2.2.1 hrt hv (fun _ ht _ => ⟨⟨_, w1, rfl, hpost, by rw [ht]; exact hP, hD⟩, hS.F ht⟩) hS.2.2 hdg (hlocks := hC.2.2.2.2.2.2.1))
theorem rz_a {v : Value} {rt : FieldType} {pc : Nat} {ls : Array Slot} (hC : CX p s m meth c args cc nL (some rt) own) (hrt : (∃ n, rt = .object n) ∨ ∃ t, rt = .array t) (hv : v = .null ∨ ∃ a, v = .ref a) (hdg : decode cc pc = .ok (.areturn, 1)) : W p l e R s m args below meth c s.heap [] 0 0 (MQ below (pz_Q (some v)) args s 0 0 pz_F) (F0 m pc ls [v]) :=
  W.aret hC.1 hC.2.1 hC.2.2.1 hrt hv (fun _ ht _ => ⟨rfl, ht⟩) (fun _ h => absurd h List.not_mem_nil) hdg (hlocks := hC.2.2.2.2.2.2.1)
end B2
end
section
def bI (b : Bool) : Int32 := if b then 1 else 0
theorem bI_t : bI true = 1 := rfl
theorem bI_f : bI false = 0 := rfl
theorem bI_0 {b : Bool} (h : bI b = 0) : b = false := by cases b; rfl; exact absurd h (by decide)
theorem bI_1 {b : Bool} (h : ¬ bI b = 0) : b = true := by cases b; exact absurd rfl h; rfl
theorem bI_nI (b : Bool) : bI b = nI b.toNat := by cases b <;> rfl
theorem nI_or (a b : Nat) : nI a ||| nI b = nI (a ||| b) := by
  apply Int32.toBitVec_inj.1
  show BitVec.ofNat 32 a ||| BitVec.ofNat 32 b = BitVec.ofNat 32 (a ||| b)
  apply BitVec.eq_of_getLsbD_eq; intro i hi; simp [hi]
theorem nI_and (a b : Nat) : nI a &&& nI b = nI (a &&& b) := by
  apply Int32.toBitVec_inj.1
  show BitVec.ofNat 32 a &&& BitVec.ofNat 32 b = BitVec.ofNat 32 (a &&& b)
  apply BitVec.eq_of_getLsbD_eq; intro i hi; simp [hi]
theorem nI_xor (a b : Nat) : nI a ^^^ nI b = nI (a ^^^ b) := by
  apply Int32.toBitVec_inj.1
  show BitVec.ofNat 32 a ^^^ BitVec.ofNat 32 b = BitVec.ofNat 32 (a ^^^ b)
  apply BitVec.eq_of_getLsbD_eq; intro i hi; simp [hi]
theorem lN_or (a b : Nat) : lN a ||| lN b = lN (a ||| b) := by
  apply Int64.toBitVec_inj.1
  show BitVec.ofNat 64 a ||| BitVec.ofNat 64 b = BitVec.ofNat 64 (a ||| b)
  apply BitVec.eq_of_getLsbD_eq; intro i hi; simp [hi]
theorem lN_and (a b : Nat) : lN a &&& lN b = lN (a &&& b) := by
  apply Int64.toBitVec_inj.1
  show BitVec.ofNat 64 a &&& BitVec.ofNat 64 b = BitVec.ofNat 64 (a &&& b)
  apply BitVec.eq_of_getLsbD_eq; intro i hi; simp [hi]
theorem lN_xr (a b : Nat) : lN a ^^^ lN b = lN (a ^^^ b) := by
  apply Int64.toBitVec_inj.1
  show BitVec.ofNat 64 a ^^^ BitVec.ofNat 64 b = BitVec.ofNat 64 (a ^^^ b)
  apply BitVec.eq_of_getLsbD_eq; intro i hi; simp [hi]
theorem sm_I : ∀ k, k < 32 → ((nI k &&& 31).toBitVec.smod 32).toNat = k := by decide +kernel
theorem sm_L : ∀ k, k < 64 → (((nI k).toInt64 &&& 63).toBitVec.smod 64).toNat = k := by decide +kernel
theorem us_L : ∀ k, k < 64 → (((nI k).toInt64.toUInt64 &&& Int64.toUInt64 63).toBitVec % 64).toNat = k := by decide +kernel
theorem nI_shl (a : Nat) {k : Nat} (hk : k < 32) : nI a <<< (nI k &&& 31) = nI (a <<< k) := by
  apply Int32.toBitVec_inj.mp; apply BitVec.eq_of_toNat_eq
  rw [pk_shl _ _ k (sm_I k hk), Nat.shiftLeft_eq]
  show (BitVec.ofNat 32 a).toNat * 2 ^ k % 2 ^ 32 = (BitVec.ofNat 32 (a * 2 ^ k)).toNat
  rw [BitVec.toNat_ofNat, BitVec.toNat_ofNat, Nat.mod_mul_mod]
theorem nI_shr {a k : Nat} (ha : a < 2 ^ 31) (hk : k < 32) : nI a >>> (nI k &&& 31) = nI (a >>> k) := by
  rw [pk_shrN ha _ k (sm_I k hk), Nat.shiftRight_eq_div_pow]
theorem lN_shl (a : Nat) {k : Nat} (hk : k < 64) : lN a <<< ((nI k).toInt64 &&& 63) = lN (a <<< k) := by
  apply Int64.toBitVec_inj.mp; apply BitVec.eq_of_toNat_eq
  show ((lN a).toBitVec <<< (((nI k).toInt64 &&& 63).toBitVec.smod 64)).toNat = _
  rw [BitVec.shiftLeft_eq', BitVec.toNat_shiftLeft, sm_L k hk, Nat.shiftLeft_eq]
  show (BitVec.ofNat 64 a).toNat * 2 ^ k % 2 ^ 64 = (BitVec.ofNat 64 (a <<< k)).toNat
  rw [BitVec.toNat_ofNat, BitVec.toNat_ofNat, Nat.mod_mul_mod, Nat.shiftLeft_eq]
theorem lN_shr {a k : Nat} (ha : a < 2 ^ 63) (hk : k < 64) : lN a >>> ((nI k).toInt64 &&& 63) = lN (a >>> k) := by
  apply Int64.toInt_inj.mp
  have h1 : (lN a >>> ((nI k).toInt64 &&& 63)).toInt = (lN a).toInt >>> k := by
    show ((lN a).toBitVec.sshiftRight' (((nI k).toInt64 &&& 63).toBitVec.smod 64)).toInt = _
    rw [BitVec.sshiftRight', BitVec.toInt_sshiftRight, sm_L k hk]
    rfl
  have h2 : a >>> k ≤ a := by rw [Nat.shiftRight_eq_div_pow]; exact Nat.div_le_self _ _
  rw [h1, pk_lT ha, pk_lT (by omega)]
  rfl
theorem lN_ushr {a k : Nat} (ha : a < 2 ^ 64) (hk : k < 64) : ((lN a).toUInt64 >>> ((nI k).toInt64.toUInt64 &&& Int64.toUInt64 63)).toInt64 = lN (a >>> k) := by
  apply Int64.toBitVec_inj.mp; apply BitVec.eq_of_toNat_eq
  show ((lN a).toBitVec >>> (((nI k).toInt64.toUInt64 &&& Int64.toUInt64 63).toBitVec % 64)).toNat = _
  rw [BitVec.ushiftRight_eq', BitVec.toNat_ushiftRight, us_L k hk]
  have h2 : a >>> k ≤ a := by rw [Nat.shiftRight_eq_div_pow]; exact Nat.div_le_self _ _
  show (BitVec.ofNat 64 a).toNat >>> k = (BitVec.ofNat 64 (a >>> k)).toNat
  rw [BitVec.toNat_ofNat, BitVec.toNat_ofNat, Nat.mod_eq_of_lt ha, Nat.mod_eq_of_lt (by omega)]

section B3
variable {p : Program} {l : Launch} {e : Env} {R : Room} {s : State} {m : MethodId} {args : Array Value} {below : List Frame} {meth : Method} {c : Code} {H : Heap} {locs : List Loc} {cells slots : Nat} {Q : State → Prop} {pc : Nat} {ls : Array Slot} {rest : List Value} {cc : ByteArray}

theorem n_iadd (hx : p.tables.exec = Jvm.exec) (hb : c.code = cc) {x y : Nat}  (hdg : decode cc pc = .ok (.iadd, 1)) (k : W p l e R s m args below meth c H locs cells slots Q (F0 m (pc + 1) ls (.int (nI (x + y)) :: rest))) : W p l e R s m args below meth c H locs cells slots Q (F0 m pc ls (.int (nI y) :: .int (nI x) :: rest)) := lv_iadd hx hb hdg (by rw [nI_add]; exact k)
theorem n_imul (hx : p.tables.exec = Jvm.exec) (hb : c.code = cc) {x y : Nat}  (hdg : decode cc pc = .ok (.imul, 1)) (k : W p l e R s m args below meth c H locs cells slots Q (F0 m (pc + 1) ls (.int (nI (x * y)) :: rest))) : W p l e R s m args below meth c H locs cells slots Q (F0 m pc ls (.int (nI y) :: .int (nI x) :: rest)) := lv_imul hx hb hdg (by rw [pk_mul]; exact k)
theorem n_isub (hx : p.tables.exec = Jvm.exec) (hb : c.code = cc) {x y : Nat} (h : y ≤ x) (hdg : decode cc pc = .ok (.isub, 1)) (k : W p l e R s m args below meth c H locs cells slots Q (F0 m (pc + 1) ls (.int (nI (x - y)) :: rest))) : W p l e R s m args below meth c H locs cells slots Q (F0 m pc ls (.int (nI y) :: .int (nI x) :: rest)) := lv_isub hx hb hdg (by rw [pk_sub h]; exact k)
theorem n_iand (hx : p.tables.exec = Jvm.exec) (hb : c.code = cc) {x y : Nat}  (hdg : decode cc pc = .ok (.iand, 1)) (k : W p l e R s m args below meth c H locs cells slots Q (F0 m (pc + 1) ls (.int (nI (x &&& y)) :: rest))) : W p l e R s m args below meth c H locs cells slots Q (F0 m pc ls (.int (nI y) :: .int (nI x) :: rest)) := lv_iand hx hb hdg (by rw [nI_and]; exact k)
theorem n_ior (hx : p.tables.exec = Jvm.exec) (hb : c.code = cc) {x y : Nat}  (hdg : decode cc pc = .ok (.ior, 1)) (k : W p l e R s m args below meth c H locs cells slots Q (F0 m (pc + 1) ls (.int (nI (x ||| y)) :: rest))) : W p l e R s m args below meth c H locs cells slots Q (F0 m pc ls (.int (nI y) :: .int (nI x) :: rest)) := lv_ior hx hb hdg (by rw [nI_or]; exact k)
theorem n_ixor (hx : p.tables.exec = Jvm.exec) (hb : c.code = cc) {x y : Nat}  (hdg : decode cc pc = .ok (.ixor, 1)) (k : W p l e R s m args below meth c H locs cells slots Q (F0 m (pc + 1) ls (.int (nI (x ^^^ y)) :: rest))) : W p l e R s m args below meth c H locs cells slots Q (F0 m pc ls (.int (nI y) :: .int (nI x) :: rest)) := lv_ixor hx hb hdg (by rw [nI_xor]; exact k)
theorem n_ishl (hx : p.tables.exec = Jvm.exec) (hb : c.code = cc) {x y : Nat} (h : y < 32) (hdg : decode cc pc = .ok (.ishl, 1)) (k : W p l e R s m args below meth c H locs cells slots Q (F0 m (pc + 1) ls (.int (nI (x <<< y)) :: rest))) : W p l e R s m args below meth c H locs cells slots Q (F0 m pc ls (.int (nI y) :: .int (nI x) :: rest)) := lv_ishl hx hb hdg (by rw [nI_shl x h]; exact k)
theorem n_ishr (hx : p.tables.exec = Jvm.exec) (hb : c.code = cc) {x y : Nat} (h1 : x < 2 ^ 31) (h : y < 32) (hdg : decode cc pc = .ok (.ishr, 1)) (k : W p l e R s m args below meth c H locs cells slots Q (F0 m (pc + 1) ls (.int (nI (x >>> y)) :: rest))) : W p l e R s m args below meth c H locs cells slots Q (F0 m pc ls (.int (nI y) :: .int (nI x) :: rest)) := lv_ishr hx hb hdg (by rw [nI_shr h1 h]; exact k)
theorem n_idiv (hx : p.tables.exec = Jvm.exec) (hb : c.code = cc) {x y : Nat} (h1 : x < 2 ^ 31) (h0 : 0 < y) (h2 : y < 2 ^ 31) (hdg : decode cc pc = .ok (.idiv, 1)) (k : W p l e R s m args below meth c H locs cells slots Q (F0 m (pc + 1) ls (.int (nI (x / y)) :: rest))) : W p l e R s m args below meth c H locs cells slots Q (F0 m pc ls (.int (nI y) :: .int (nI x) :: rest)) := lv_idiv hx hb hdg (nI_ne0 h0 h2) (by rw [pk_div h1 h0 (by omega)]; exact k)
theorem n_irem (hx : p.tables.exec = Jvm.exec) (hb : c.code = cc) {x y : Nat} (h1 : x < 2 ^ 31) (h0 : 0 < y) (h2 : y < 2 ^ 31) (hdg : decode cc pc = .ok (.irem, 1)) (k : W p l e R s m args below meth c H locs cells slots Q (F0 m (pc + 1) ls (.int (nI (x % y)) :: rest))) : W p l e R s m args below meth c H locs cells slots Q (F0 m pc ls (.int (nI y) :: .int (nI x) :: rest)) := lv_irem hx hb hdg (nI_ne0 h0 h2) (by rw [pk_rem h1 h0 (by omega)]; exact k)
theorem n_ladd (hx : p.tables.exec = Jvm.exec) (hb : c.code = cc) {x y : Nat}  (hdg : decode cc pc = .ok (.ladd, 1)) (k : W p l e R s m args below meth c H locs cells slots Q (F0 m (pc + 1) ls (.long (lN (x + y)) :: rest))) : W p l e R s m args below meth c H locs cells slots Q (F0 m pc ls (.long (lN y) :: .long (lN x) :: rest)) := lv_ladd hx hb hdg (by rw [lN_add]; exact k)
theorem n_lmul (hx : p.tables.exec = Jvm.exec) (hb : c.code = cc) {x y : Nat}  (hdg : decode cc pc = .ok (.lmul, 1)) (k : W p l e R s m args below meth c H locs cells slots Q (F0 m (pc + 1) ls (.long (lN (x * y)) :: rest))) : W p l e R s m args below meth c H locs cells slots Q (F0 m pc ls (.long (lN y) :: .long (lN x) :: rest)) := lv_lmul hx hb hdg (by rw [lN_mul]; exact k)
theorem n_land (hx : p.tables.exec = Jvm.exec) (hb : c.code = cc) {x y : Nat}  (hdg : decode cc pc = .ok (.land, 1)) (k : W p l e R s m args below meth c H locs cells slots Q (F0 m (pc + 1) ls (.long (lN (x &&& y)) :: rest))) : W p l e R s m args below meth c H locs cells slots Q (F0 m pc ls (.long (lN y) :: .long (lN x) :: rest)) := lv_land hx hb hdg (by rw [lN_and]; exact k)
theorem n_lor (hx : p.tables.exec = Jvm.exec) (hb : c.code = cc) {x y : Nat}  (hdg : decode cc pc = .ok (.lor, 1)) (k : W p l e R s m args below meth c H locs cells slots Q (F0 m (pc + 1) ls (.long (lN (x ||| y)) :: rest))) : W p l e R s m args below meth c H locs cells slots Q (F0 m pc ls (.long (lN y) :: .long (lN x) :: rest)) := lv_lor hx hb hdg (by rw [lN_or]; exact k)
theorem n_lxor (hx : p.tables.exec = Jvm.exec) (hb : c.code = cc) {x y : Nat}  (hdg : decode cc pc = .ok (.lxor, 1)) (k : W p l e R s m args below meth c H locs cells slots Q (F0 m (pc + 1) ls (.long (lN (x ^^^ y)) :: rest))) : W p l e R s m args below meth c H locs cells slots Q (F0 m pc ls (.long (lN y) :: .long (lN x) :: rest)) := lv_lxor hx hb hdg (by rw [lN_xr]; exact k)
theorem n_lshl (hx : p.tables.exec = Jvm.exec) (hb : c.code = cc) {x y : Nat} (h : y < 64) (hdg : decode cc pc = .ok (.lshl, 1)) (k : W p l e R s m args below meth c H locs cells slots Q (F0 m (pc + 1) ls (.long (lN (x <<< y)) :: rest))) : W p l e R s m args below meth c H locs cells slots Q (F0 m pc ls (.int (nI y) :: .long (lN x) :: rest)) := lv_lshl hx hb hdg (lN_shl x h) k
theorem n_lshr (hx : p.tables.exec = Jvm.exec) (hb : c.code = cc) {x y : Nat} (h1 : x < 2 ^ 63) (h : y < 64) (hdg : decode cc pc = .ok (.lshr, 1)) (k : W p l e R s m args below meth c H locs cells slots Q (F0 m (pc + 1) ls (.long (lN (x >>> y)) :: rest))) : W p l e R s m args below meth c H locs cells slots Q (F0 m pc ls (.int (nI y) :: .long (lN x) :: rest)) := lv_lshr hx hb hdg (lN_shr h1 h) k
theorem n_lushr (hx : p.tables.exec = Jvm.exec) (hb : c.code = cc) {x y : Nat} (h1 : x < 2 ^ 64) (h : y < 64) (hdg : decode cc pc = .ok (.lushr, 1)) (k : W p l e R s m args below meth c H locs cells slots Q (F0 m (pc + 1) ls (.long (lN (x >>> y)) :: rest))) : W p l e R s m args below meth c H locs cells slots Q (F0 m pc ls (.int (nI y) :: .long (lN x) :: rest)) := lv_lushr hx hb hdg (lN_ushr h1 h) k
theorem n_i2l (hx : p.tables.exec = Jvm.exec) (hb : c.code = cc) {x : Nat} (h : x < 2 ^ 31) (hdg : decode cc pc = .ok (.i2l, 1)) (k : W p l e R s m args below meth c H locs cells slots Q (F0 m (pc + 1) ls (.long (lN x) :: rest))) : W p l e R s m args below meth c H locs cells slots Q (F0 m pc ls (.int (nI x) :: rest)) := lv_i2l hx hb hdg (nI_l h) k
theorem n_l2i (hx : p.tables.exec = Jvm.exec) (hb : c.code = cc) {x : Nat}  (hdg : decode cc pc = .ok (.l2i, 1)) (k : W p l e R s m args below meth c H locs cells slots Q (F0 m (pc + 1) ls (.int (nI x) :: rest))) : W p l e R s m args below meth c H locs cells slots Q (F0 m pc ls (.long (lN x) :: rest)) := lv_l2i hx hb hdg (lN_i x) k
theorem n_icmp_eq (hx : p.tables.exec = Jvm.exec) (hb : c.code = cc) {x y : Nat} (h1 : x < 2 ^ 31) (h2 : y < 2 ^ 31) {off : Int} {tgt : Nat} (hdg : decode cc pc = .ok (.if_icmp .eq off, 3)) (ht : (pc : Int) + off = (tgt : Int)) (kt : x = y → W p l e R s m args below meth c H locs cells slots Q (F0 m tgt ls (rest))) (kf : x ≠ y → W p l e R s m args below meth c H locs cells slots Q (F0 m (pc + 3) ls (rest))) : W p l e R s m args below meth c H locs cells slots Q (F0 m pc ls (.int (nI y) :: .int (nI x) :: rest)) := lv_icmp_eq hx hb hdg ht (fun h => kt ((nI_eq h1 h2).mp h)) (fun h => kf (fun e => h ((nI_eq h1 h2).mpr e)))
theorem n_icmp_ne (hx : p.tables.exec = Jvm.exec) (hb : c.code = cc) {x y : Nat} (h1 : x < 2 ^ 31) (h2 : y < 2 ^ 31) {off : Int} {tgt : Nat} (hdg : decode cc pc = .ok (.if_icmp .ne off, 3)) (ht : (pc : Int) + off = (tgt : Int)) (kt : x ≠ y → W p l e R s m args below meth c H locs cells slots Q (F0 m tgt ls (rest))) (kf : x = y → W p l e R s m args below meth c H locs cells slots Q (F0 m (pc + 3) ls (rest))) : W p l e R s m args below meth c H locs cells slots Q (F0 m pc ls (.int (nI y) :: .int (nI x) :: rest)) := lv_icmp_ne hx hb hdg ht (fun h => kt (fun e => h ((nI_eq h1 h2).mpr e))) (fun h => kf ((nI_eq h1 h2).mp h))
theorem n_icmp_lt (hx : p.tables.exec = Jvm.exec) (hb : c.code = cc) {x y : Nat} (h1 : x < 2 ^ 31) (h2 : y < 2 ^ 31) {off : Int} {tgt : Nat} (hdg : decode cc pc = .ok (.if_icmp .lt off, 3)) (ht : (pc : Int) + off = (tgt : Int)) (kt : x < y → W p l e R s m args below meth c H locs cells slots Q (F0 m tgt ls (rest))) (kf : y ≤ x → W p l e R s m args below meth c H locs cells slots Q (F0 m (pc + 3) ls (rest))) : W p l e R s m args below meth c H locs cells slots Q (F0 m pc ls (.int (nI y) :: .int (nI x) :: rest)) := lv_icmp_lt hx hb hdg ht (fun h => kt ((nI_ltI h1 h2).mp h)) (fun h => kf (Nat.le_of_not_lt fun e => h ((nI_ltI h1 h2).mpr e)))
theorem n_icmp_ge (hx : p.tables.exec = Jvm.exec) (hb : c.code = cc) {x y : Nat} (h1 : x < 2 ^ 31) (h2 : y < 2 ^ 31) {off : Int} {tgt : Nat} (hdg : decode cc pc = .ok (.if_icmp .ge off, 3)) (ht : (pc : Int) + off = (tgt : Int)) (kt : y ≤ x → W p l e R s m args below meth c H locs cells slots Q (F0 m tgt ls (rest))) (kf : x < y → W p l e R s m args below meth c H locs cells slots Q (F0 m (pc + 3) ls (rest))) : W p l e R s m args below meth c H locs cells slots Q (F0 m pc ls (.int (nI y) :: .int (nI x) :: rest)) := lv_icmp_ge hx hb hdg ht (fun h => kt ((nI_leI h2 h1).mp h)) (fun h => kf (Nat.lt_of_not_le fun e => h ((nI_leI h2 h1).mpr e)))
theorem n_icmp_gt (hx : p.tables.exec = Jvm.exec) (hb : c.code = cc) {x y : Nat} (h1 : x < 2 ^ 31) (h2 : y < 2 ^ 31) {off : Int} {tgt : Nat} (hdg : decode cc pc = .ok (.if_icmp .gt off, 3)) (ht : (pc : Int) + off = (tgt : Int)) (kt : y < x → W p l e R s m args below meth c H locs cells slots Q (F0 m tgt ls (rest))) (kf : x ≤ y → W p l e R s m args below meth c H locs cells slots Q (F0 m (pc + 3) ls (rest))) : W p l e R s m args below meth c H locs cells slots Q (F0 m pc ls (.int (nI y) :: .int (nI x) :: rest)) := lv_icmp_gt hx hb hdg ht (fun h => kt ((nI_ltI h2 h1).mp h)) (fun h => kf (Nat.le_of_not_lt fun e => h ((nI_ltI h2 h1).mpr e)))
theorem n_icmp_le (hx : p.tables.exec = Jvm.exec) (hb : c.code = cc) {x y : Nat} (h1 : x < 2 ^ 31) (h2 : y < 2 ^ 31) {off : Int} {tgt : Nat} (hdg : decode cc pc = .ok (.if_icmp .le off, 3)) (ht : (pc : Int) + off = (tgt : Int)) (kt : x ≤ y → W p l e R s m args below meth c H locs cells slots Q (F0 m tgt ls (rest))) (kf : y < x → W p l e R s m args below meth c H locs cells slots Q (F0 m (pc + 3) ls (rest))) : W p l e R s m args below meth c H locs cells slots Q (F0 m pc ls (.int (nI y) :: .int (nI x) :: rest)) := lv_icmp_le hx hb hdg ht (fun h => kt ((nI_leI h1 h2).mp h)) (fun h => kf (Nat.lt_of_not_le fun e => h ((nI_leI h1 h2).mpr e)))
theorem n_if_eq (hx : p.tables.exec = Jvm.exec) (hb : c.code = cc) {x : Nat} (h1 : x < 2 ^ 31) {off : Int} {tgt : Nat} (hdg : decode cc pc = .ok (.ifCond .eq off, 3)) (ht : (pc : Int) + off = (tgt : Int)) (kt : x = 0 → W p l e R s m args below meth c H locs cells slots Q (F0 m tgt ls (rest))) (kf : x ≠ 0 → W p l e R s m args below meth c H locs cells slots Q (F0 m (pc + 3) ls (rest))) : W p l e R s m args below meth c H locs cells slots Q (F0 m pc ls (.int (nI x) :: rest)) := lv_if_eq hx hb hdg ht (fun h => kt ((nI_eq h1 (by decide)).mp h)) (fun h => kf (fun e => h (by rw [e]; rfl)))
theorem n_if_ne (hx : p.tables.exec = Jvm.exec) (hb : c.code = cc) {x : Nat} (h1 : x < 2 ^ 31) {off : Int} {tgt : Nat} (hdg : decode cc pc = .ok (.ifCond .ne off, 3)) (ht : (pc : Int) + off = (tgt : Int)) (kt : x ≠ 0 → W p l e R s m args below meth c H locs cells slots Q (F0 m tgt ls (rest))) (kf : x = 0 → W p l e R s m args below meth c H locs cells slots Q (F0 m (pc + 3) ls (rest))) : W p l e R s m args below meth c H locs cells slots Q (F0 m pc ls (.int (nI x) :: rest)) := lv_if_ne hx hb hdg ht (fun h => kt (fun e => h (by rw [e]; rfl))) (fun h => kf ((nI_eq h1 (by decide)).mp h))
theorem n_if_gt (hx : p.tables.exec = Jvm.exec) (hb : c.code = cc) {x : Nat} (h1 : x < 2 ^ 31) {off : Int} {tgt : Nat} (hdg : decode cc pc = .ok (.ifCond .gt off, 3)) (ht : (pc : Int) + off = (tgt : Int)) (kt : 0 < x → W p l e R s m args below meth c H locs cells slots Q (F0 m tgt ls (rest))) (kf : x = 0 → W p l e R s m args below meth c H locs cells slots Q (F0 m (pc + 3) ls (rest))) : W p l e R s m args below meth c H locs cells slots Q (F0 m pc ls (.int (nI x) :: rest)) := lv_if_gt hx hb hdg ht (fun h => kt ((nI_ltI (by decide) h1).mp h)) (fun h => kf (Nat.eq_zero_of_not_pos fun e => h ((nI_ltI (by decide) h1).mpr e)))
theorem n_if_le (hx : p.tables.exec = Jvm.exec) (hb : c.code = cc) {x : Nat} (h1 : x < 2 ^ 31) {off : Int} {tgt : Nat} (hdg : decode cc pc = .ok (.ifCond .le off, 3)) (ht : (pc : Int) + off = (tgt : Int)) (kt : x = 0 → W p l e R s m args below meth c H locs cells slots Q (F0 m tgt ls (rest))) (kf : 0 < x → W p l e R s m args below meth c H locs cells slots Q (F0 m (pc + 3) ls (rest))) : W p l e R s m args below meth c H locs cells slots Q (F0 m pc ls (.int (nI x) :: rest)) := lv_if_le hx hb hdg ht (fun h => kt (Nat.le_zero.mp ((nI_leI h1 (by decide)).mp h))) (fun h => kf (Nat.lt_of_not_le fun e => h ((nI_leI h1 (by decide)).mpr e)))
theorem n_if_lt (hx : p.tables.exec = Jvm.exec) (hb : c.code = cc) {x : Nat} (h1 : x < 2 ^ 31) {off : Int} {tgt : Nat} (hdg : decode cc pc = .ok (.ifCond .lt off, 3)) (ht : (pc : Int) + off = (tgt : Int)) (kf : W p l e R s m args below meth c H locs cells slots Q (F0 m (pc + 3) ls (rest))) : W p l e R s m args below meth c H locs cells slots Q (F0 m pc ls (.int (nI x) :: rest)) := lv_if_lt hx hb hdg ht (fun h => absurd h (nI_pos h1)) (fun _ => kf)
theorem n_if_ge (hx : p.tables.exec = Jvm.exec) (hb : c.code = cc) {x : Nat} (h1 : x < 2 ^ 31) {off : Int} {tgt : Nat} (hdg : decode cc pc = .ok (.ifCond .ge off, 3)) (ht : (pc : Int) + off = (tgt : Int)) (kt : W p l e R s m args below meth c H locs cells slots Q (F0 m tgt ls (rest))) : W p l e R s m args below meth c H locs cells slots Q (F0 m pc ls (.int (nI x) :: rest)) := lv_if_ge hx hb hdg ht (fun _ => kt) (fun h => absurd (nI_pos' h1) h)
theorem b_if_eq (hx : p.tables.exec = Jvm.exec) (hb : c.code = cc) {b : Bool} {off : Int} {tgt : Nat} (hdg : decode cc pc = .ok (.ifCond .eq off, 3)) (ht : (pc : Int) + off = (tgt : Int)) (kt : b = false → W p l e R s m args below meth c H locs cells slots Q (F0 m tgt ls (rest))) (kf : b = true → W p l e R s m args below meth c H locs cells slots Q (F0 m (pc + 3) ls (rest))) : W p l e R s m args below meth c H locs cells slots Q (F0 m pc ls (.int (bI b) :: rest)) := lv_if_eq hx hb hdg ht (fun h => kt (bI_0 h)) (fun h => kf (bI_1 h))
theorem b_if_ne (hx : p.tables.exec = Jvm.exec) (hb : c.code = cc) {b : Bool} {off : Int} {tgt : Nat} (hdg : decode cc pc = .ok (.ifCond .ne off, 3)) (ht : (pc : Int) + off = (tgt : Int)) (kt : b = true → W p l e R s m args below meth c H locs cells slots Q (F0 m tgt ls (rest))) (kf : b = false → W p l e R s m args below meth c H locs cells slots Q (F0 m (pc + 3) ls (rest))) : W p l e R s m args below meth c H locs cells slots Q (F0 m pc ls (.int (bI b) :: rest)) := lv_if_ne hx hb hdg ht (fun h => kt (bI_1 h)) (fun h => kf (bI_0 h))
theorem n_lcmp_eq (hx : p.tables.exec = Jvm.exec) (hb : c.code = cc) {x y : Nat} (h1 : x < 2 ^ 63) (h2 : y < 2 ^ 63) {off : Int} {tgt : Nat} (hdg0 : decode cc pc = .ok (.lcmp, 1)) (hdg : decode cc (pc + 1) = .ok (.ifCond .eq off, 3)) (ht : ((pc + 1 : Nat) : Int) + off = (tgt : Int)) (kt : x = y → W p l e R s m args below meth c H locs cells slots Q (F0 m tgt ls (rest))) (kf : x ≠ y → W p l e R s m args below meth c H locs cells slots Q (F0 m (pc + 1 + 3) ls (rest))) : W p l e R s m args below meth c H locs cells slots Q (F0 m pc ls (.long (lN y) :: .long (lN x) :: rest)) := by
  refine W.lcmp hx hb hdg0 ?_
  rcases Nat.lt_trichotomy x y with h3 | h3 | h3
  · have hv : lg_cmp (lN x) (lN y) = -1 := by
      rw [lg_cmp, if_neg (fun h => absurd ((pk_lLT h2 h1).mp h) (by omega)), if_neg (fun h => absurd ((pk_lEQ h1 h2).mp h) (by omega))]
    rw [hv]
    exact lv_if_eq hx hb hdg ht (fun h => kt (by first | omega | exact absurd h (by decide))) (fun h => kf (by first | omega | exact absurd (by decide) h | exact absurd h (by decide)))
  · have hv : lg_cmp (lN x) (lN y) = 0 := by
      rw [lg_cmp, if_neg (fun h => absurd ((pk_lLT h2 h1).mp h) (by omega)), if_pos (by rw [h3])]
    rw [hv]
    exact lv_if_eq hx hb hdg ht (fun h => kt (by first | omega | exact absurd h (by decide) | exact absurd rfl h)) (fun h => kf (by first | omega | exact absurd (by decide) h | exact absurd h (by decide)))
  · have hv : lg_cmp (lN x) (lN y) = 1 := by
      rw [lg_cmp, if_pos ((pk_lLT h2 h1).mpr h3)]
    rw [hv]
    exact lv_if_eq hx hb hdg ht (fun h => kt (by first | omega | exact absurd h (by decide))) (fun h => kf (by first | omega | exact absurd (by decide) h | exact absurd h (by decide)))
theorem n_lcmp_ne (hx : p.tables.exec = Jvm.exec) (hb : c.code = cc) {x y : Nat} (h1 : x < 2 ^ 63) (h2 : y < 2 ^ 63) {off : Int} {tgt : Nat} (hdg0 : decode cc pc = .ok (.lcmp, 1)) (hdg : decode cc (pc + 1) = .ok (.ifCond .ne off, 3)) (ht : ((pc + 1 : Nat) : Int) + off = (tgt : Int)) (kt : x ≠ y → W p l e R s m args below meth c H locs cells slots Q (F0 m tgt ls (rest))) (kf : x = y → W p l e R s m args below meth c H locs cells slots Q (F0 m (pc + 1 + 3) ls (rest))) : W p l e R s m args below meth c H locs cells slots Q (F0 m pc ls (.long (lN y) :: .long (lN x) :: rest)) := by
  refine W.lcmp hx hb hdg0 ?_
  rcases Nat.lt_trichotomy x y with h3 | h3 | h3
  · have hv : lg_cmp (lN x) (lN y) = -1 := by
      rw [lg_cmp, if_neg (fun h => absurd ((pk_lLT h2 h1).mp h) (by omega)), if_neg (fun h => absurd ((pk_lEQ h1 h2).mp h) (by omega))]
    rw [hv]
    exact lv_if_ne hx hb hdg ht (fun h => kt (by first | omega | exact absurd h (by decide))) (fun h => kf (by first | omega | exact absurd (by decide) h | exact absurd h (by decide)))
  · have hv : lg_cmp (lN x) (lN y) = 0 := by
      rw [lg_cmp, if_neg (fun h => absurd ((pk_lLT h2 h1).mp h) (by omega)), if_pos (by rw [h3])]
    rw [hv]
    exact lv_if_ne hx hb hdg ht (fun h => kt (by first | omega | exact absurd h (by decide) | exact absurd rfl h)) (fun h => kf (by first | omega | exact absurd (by decide) h | exact absurd h (by decide)))
  · have hv : lg_cmp (lN x) (lN y) = 1 := by
      rw [lg_cmp, if_pos ((pk_lLT h2 h1).mpr h3)]
    rw [hv]
    exact lv_if_ne hx hb hdg ht (fun h => kt (by first | omega | exact absurd h (by decide))) (fun h => kf (by first | omega | exact absurd (by decide) h | exact absurd h (by decide)))
theorem n_lcmp_le (hx : p.tables.exec = Jvm.exec) (hb : c.code = cc) {x y : Nat} (h1 : x < 2 ^ 63) (h2 : y < 2 ^ 63) {off : Int} {tgt : Nat} (hdg0 : decode cc pc = .ok (.lcmp, 1)) (hdg : decode cc (pc + 1) = .ok (.ifCond .le off, 3)) (ht : ((pc + 1 : Nat) : Int) + off = (tgt : Int)) (kt : x ≤ y → W p l e R s m args below meth c H locs cells slots Q (F0 m tgt ls (rest))) (kf : y < x → W p l e R s m args below meth c H locs cells slots Q (F0 m (pc + 1 + 3) ls (rest))) : W p l e R s m args below meth c H locs cells slots Q (F0 m pc ls (.long (lN y) :: .long (lN x) :: rest)) := by
  refine W.lcmp hx hb hdg0 ?_
  rcases Nat.lt_trichotomy x y with h3 | h3 | h3
  · have hv : lg_cmp (lN x) (lN y) = -1 := by
      rw [lg_cmp, if_neg (fun h => absurd ((pk_lLT h2 h1).mp h) (by omega)), if_neg (fun h => absurd ((pk_lEQ h1 h2).mp h) (by omega))]
    rw [hv]
    exact lv_if_le hx hb hdg ht (fun h => kt (by first | omega | exact absurd h (by decide))) (fun h => kf (by first | omega | exact absurd (by decide) h | exact absurd h (by decide)))
  · have hv : lg_cmp (lN x) (lN y) = 0 := by
      rw [lg_cmp, if_neg (fun h => absurd ((pk_lLT h2 h1).mp h) (by omega)), if_pos (by rw [h3])]
    rw [hv]
    exact lv_if_le hx hb hdg ht (fun h => kt (by first | omega | exact absurd h (by decide) | exact absurd rfl h)) (fun h => kf (by first | omega | exact absurd (by decide) h | exact absurd h (by decide)))
  · have hv : lg_cmp (lN x) (lN y) = 1 := by
      rw [lg_cmp, if_pos ((pk_lLT h2 h1).mpr h3)]
    rw [hv]
    exact lv_if_le hx hb hdg ht (fun h => kt (by first | omega | exact absurd h (by decide))) (fun h => kf (by first | omega | exact absurd (by decide) h | exact absurd h (by decide)))
theorem n_lcmp_gt (hx : p.tables.exec = Jvm.exec) (hb : c.code = cc) {x y : Nat} (h1 : x < 2 ^ 63) (h2 : y < 2 ^ 63) {off : Int} {tgt : Nat} (hdg0 : decode cc pc = .ok (.lcmp, 1)) (hdg : decode cc (pc + 1) = .ok (.ifCond .gt off, 3)) (ht : ((pc + 1 : Nat) : Int) + off = (tgt : Int)) (kt : y < x → W p l e R s m args below meth c H locs cells slots Q (F0 m tgt ls (rest))) (kf : x ≤ y → W p l e R s m args below meth c H locs cells slots Q (F0 m (pc + 1 + 3) ls (rest))) : W p l e R s m args below meth c H locs cells slots Q (F0 m pc ls (.long (lN y) :: .long (lN x) :: rest)) := by
  refine W.lcmp hx hb hdg0 ?_
  rcases Nat.lt_trichotomy x y with h3 | h3 | h3
  · have hv : lg_cmp (lN x) (lN y) = -1 := by
      rw [lg_cmp, if_neg (fun h => absurd ((pk_lLT h2 h1).mp h) (by omega)), if_neg (fun h => absurd ((pk_lEQ h1 h2).mp h) (by omega))]
    rw [hv]
    exact lv_if_gt hx hb hdg ht (fun h => kt (by first | omega | exact absurd h (by decide))) (fun h => kf (by first | omega | exact absurd (by decide) h | exact absurd h (by decide)))
  · have hv : lg_cmp (lN x) (lN y) = 0 := by
      rw [lg_cmp, if_neg (fun h => absurd ((pk_lLT h2 h1).mp h) (by omega)), if_pos (by rw [h3])]
    rw [hv]
    exact lv_if_gt hx hb hdg ht (fun h => kt (by first | omega | exact absurd h (by decide) | exact absurd rfl h)) (fun h => kf (by first | omega | exact absurd (by decide) h | exact absurd h (by decide)))
  · have hv : lg_cmp (lN x) (lN y) = 1 := by
      rw [lg_cmp, if_pos ((pk_lLT h2 h1).mpr h3)]
    rw [hv]
    exact lv_if_gt hx hb hdg ht (fun h => kt (by first | omega | exact absurd h (by decide))) (fun h => kf (by first | omega | exact absurd (by decide) h | exact absurd h (by decide)))
theorem n_lcmp_lt (hx : p.tables.exec = Jvm.exec) (hb : c.code = cc) {x y : Nat} (h1 : x < 2 ^ 63) (h2 : y < 2 ^ 63) {off : Int} {tgt : Nat} (hdg0 : decode cc pc = .ok (.lcmp, 1)) (hdg : decode cc (pc + 1) = .ok (.ifCond .lt off, 3)) (ht : ((pc + 1 : Nat) : Int) + off = (tgt : Int)) (kt : x < y → W p l e R s m args below meth c H locs cells slots Q (F0 m tgt ls (rest))) (kf : y ≤ x → W p l e R s m args below meth c H locs cells slots Q (F0 m (pc + 1 + 3) ls (rest))) : W p l e R s m args below meth c H locs cells slots Q (F0 m pc ls (.long (lN y) :: .long (lN x) :: rest)) := by
  refine W.lcmp hx hb hdg0 ?_
  rcases Nat.lt_trichotomy x y with h3 | h3 | h3
  · have hv : lg_cmp (lN x) (lN y) = -1 := by
      rw [lg_cmp, if_neg (fun h => absurd ((pk_lLT h2 h1).mp h) (by omega)), if_neg (fun h => absurd ((pk_lEQ h1 h2).mp h) (by omega))]
    rw [hv]
    exact lv_if_lt hx hb hdg ht (fun h => kt (by first | omega | exact absurd h (by decide))) (fun h => kf (by first | omega | exact absurd (by decide) h | exact absurd h (by decide)))
  · have hv : lg_cmp (lN x) (lN y) = 0 := by
      rw [lg_cmp, if_neg (fun h => absurd ((pk_lLT h2 h1).mp h) (by omega)), if_pos (by rw [h3])]
    rw [hv]
    exact lv_if_lt hx hb hdg ht (fun h => kt (by first | omega | exact absurd h (by decide) | exact absurd rfl h)) (fun h => kf (by first | omega | exact absurd (by decide) h | exact absurd h (by decide)))
  · have hv : lg_cmp (lN x) (lN y) = 1 := by
      rw [lg_cmp, if_pos ((pk_lLT h2 h1).mpr h3)]
    rw [hv]
    exact lv_if_lt hx hb hdg ht (fun h => kt (by first | omega | exact absurd h (by decide))) (fun h => kf (by first | omega | exact absurd (by decide) h | exact absurd h (by decide)))
theorem n_lcmp_ge (hx : p.tables.exec = Jvm.exec) (hb : c.code = cc) {x y : Nat} (h1 : x < 2 ^ 63) (h2 : y < 2 ^ 63) {off : Int} {tgt : Nat} (hdg0 : decode cc pc = .ok (.lcmp, 1)) (hdg : decode cc (pc + 1) = .ok (.ifCond .ge off, 3)) (ht : ((pc + 1 : Nat) : Int) + off = (tgt : Int)) (kt : y ≤ x → W p l e R s m args below meth c H locs cells slots Q (F0 m tgt ls (rest))) (kf : x < y → W p l e R s m args below meth c H locs cells slots Q (F0 m (pc + 1 + 3) ls (rest))) : W p l e R s m args below meth c H locs cells slots Q (F0 m pc ls (.long (lN y) :: .long (lN x) :: rest)) := by
  refine W.lcmp hx hb hdg0 ?_
  rcases Nat.lt_trichotomy x y with h3 | h3 | h3
  · have hv : lg_cmp (lN x) (lN y) = -1 := by
      rw [lg_cmp, if_neg (fun h => absurd ((pk_lLT h2 h1).mp h) (by omega)), if_neg (fun h => absurd ((pk_lEQ h1 h2).mp h) (by omega))]
    rw [hv]
    exact lv_if_ge hx hb hdg ht (fun h => kt (by first | omega | exact absurd h (by decide))) (fun h => kf (by first | omega | exact absurd (by decide) h | exact absurd h (by decide)))
  · have hv : lg_cmp (lN x) (lN y) = 0 := by
      rw [lg_cmp, if_neg (fun h => absurd ((pk_lLT h2 h1).mp h) (by omega)), if_pos (by rw [h3])]
    rw [hv]
    exact lv_if_ge hx hb hdg ht (fun h => kt (by first | omega | exact absurd h (by decide) | exact absurd rfl h)) (fun h => kf (by first | omega | exact absurd (by decide) h | exact absurd h (by decide)))
  · have hv : lg_cmp (lN x) (lN y) = 1 := by
      rw [lg_cmp, if_pos ((pk_lLT h2 h1).mpr h3)]
    rw [hv]
    exact lv_if_ge hx hb hdg ht (fun h => kt (by first | omega | exact absurd h (by decide))) (fun h => kf (by first | omega | exact absurd (by decide) h | exact absurd h (by decide)))
end B3
end
section
theorem ny_X0_init : NY yX0_init cX0_init 1 0 := ⟨kw_84, rfl, kw_5, kw_85, ⟨by decide +kernel, by decide +kernel, by decide +kernel⟩⟩
theorem iy_X0_forget : IY yX0_forget cX0_forget 1 none 0 := ⟨kw_223, kw_224, kw_5, kw_225, ⟨by decide +kernel, by decide +kernel, by decide +kernel⟩⟩
theorem iy_X0_rowsFor : IY yX0_rowsFor cX0_rowsFor 6 (some .int) 4 := ⟨kw_496, kw_497, kw_5, kw_498, ⟨by decide +kernel, by decide +kernel, by decide +kernel⟩⟩
theorem iy_X0_sureSecretsFor : IY yX0_sureSecretsFor cX0_sureSecretsFor 6 (some .int) 4 := ⟨kw_528, kw_529, kw_5, kw_530, ⟨by decide +kernel, by decide +kernel, by decide +kernel⟩⟩
theorem iy_X0_find : IY yX0_find cX0_find 8 none 4 := ⟨kw_501, ks_X0_find, kw_5, kw_502, ⟨by decide +kernel, by decide +kernel, by decide +kernel⟩⟩
theorem iy_X0_follow : IY yX0_follow cX0_follow 11 none 3 := ⟨kw_513, ks_X0_follow, kw_5, kw_514, ⟨by decide +kernel, by decide +kernel, by decide +kernel⟩⟩
theorem sy_X0_sight : SY yX0_sight cX0_sight 5 (some .int) 4 := ⟨kw_506, kw_5, kw_507, ⟨by decide +kernel, by decide +kernel, by decide +kernel⟩⟩
theorem ny_X1_init : NY yX1_init cX1_init 8 5 := ⟨kw_275, rfl, kw_9, kw_276, ⟨by decide +kernel, by decide +kernel, by decide +kernel⟩⟩
theorem iy_X1_kind : IY yX1_kind cX1_kind 1 (some .int) 0 := ⟨kw_338, kw_339, kw_9, kw_347, ⟨by decide +kernel, by decide +kernel, by decide +kernel⟩⟩
theorem iy_X1_learntBy : IY yX1_learntBy cX1_learntBy 2 (some .int) 1 := ⟨kw_349, kw_350, kw_9, kw_354, ⟨by decide +kernel, by decide +kernel, by decide +kernel⟩⟩
theorem iy_X1_telling : IY yX1_telling cX1_telling 2 (some .int) 1 := ⟨kw_665, kw_666, kw_9, kw_697, ⟨by decide +kernel, by decide +kernel, by decide +kernel⟩⟩
theorem iy_X1_plainTelling : IY yX1_plainTelling cX1_plainTelling 2 (some .int) 1 := ⟨kw_686, kw_1102, kw_9, kw_687, ⟨by decide +kernel, by decide +kernel, by decide +kernel⟩⟩
theorem iy_X1_logged : IY yX1_logged cX1_logged 2 (some .int) 1 := ⟨kw_704, kw_705, kw_9, kw_711, ⟨by decide +kernel, by decide +kernel, by decide +kernel⟩⟩
theorem sy_X2_chosen : SY yX2_chosen cX2_chosen 6 (some .int) 2 := ⟨kw_600, kw_15, kw_601, ⟨by decide +kernel, by decide +kernel, by decide +kernel⟩⟩
theorem sy_X2_isJoined : SY yX2_isJoined cX2_isJoined 5 (some .boolean) 2 := ⟨kw_551, kw_15, kw_552, ⟨by decide +kernel, by decide +kernel, by decide +kernel⟩⟩
theorem sy_X2_bridges : SY yX2_bridges cX2_bridges 6 (some .int) 2 := ⟨kw_568, kw_15, kw_569, ⟨by decide +kernel, by decide +kernel, by decide +kernel⟩⟩
theorem sy_X2_isSun : SY yX2_isSun cX2_isSun 4 (some .boolean) 2 := ⟨kw_580, kw_15, kw_581, ⟨by decide +kernel, by decide +kernel, by decide +kernel⟩⟩
theorem sy_X2_reach : SY yX2_reach cX2_reach 6 (some .int) 3 := ⟨kw_556, kw_15, kw_557, ⟨by decide +kernel, by decide +kernel, by decide +kernel⟩⟩
theorem ny_X3_init : NY yX3_init cX3_init 1 0 := ⟨kw_167, rfl, kw_7, kw_168, ⟨by decide +kernel, by decide +kernel, by decide +kernel⟩⟩
theorem iy_X3_read : IY yX3_read cX3_read 5 (some .int) 3 := ⟨kw_180, kw_181, kw_7, kw_182, ⟨by decide +kernel, by decide +kernel, by decide +kernel⟩⟩
theorem iy_X3_firstBroken : IY yX3_firstBroken cX3_firstBroken 7 (some .int) 3 := ⟨kw_185, ks_X3_firstBroken, kw_7, kw_186, ⟨by decide +kernel, by decide +kernel, by decide +kernel⟩⟩
theorem iy_X3_beginItem : IY yX3_beginItem cX3_beginItem 1 none 0 := ⟨kw_194, ks_X3_beginItem, kw_7, kw_195, ⟨by decide +kernel, by decide +kernel, by decide +kernel⟩⟩
theorem iy_X3_takesNumber : IY yX3_takesNumber cX3_takesNumber 3 (some .boolean) 1 := ⟨kw_201, ks_X3_takesNumber, kw_7, kw_202, ⟨by decide +kernel, by decide +kernel, by decide +kernel⟩⟩
theorem iy_X3_firstStranger : IY yX3_firstStranger cX3_firstStranger 6 (some .int) 3 := ⟨kw_208, ks_X3_firstStranger, kw_7, kw_209, ⟨by decide +kernel, by decide +kernel, by decide +kernel⟩⟩
theorem sy_X3_isDigit : SY yX3_isDigit cX3_isDigit 1 (some .boolean) 1 := ⟨kw_204, kw_7, kw_205, ⟨by decide +kernel, by decide +kernel, by decide +kernel⟩⟩
theorem ny_X4_init : NY yX4_init cX4_init 8 5 := ⟨kw_311, rfl, kw_10, kw_312, ⟨by decide +kernel, by decide +kernel, by decide +kernel⟩⟩
theorem sy_X5_first : SY yX5_first cX5_first 5 (some .long) 2 := ⟨kw_211, kw_8, kw_212, ⟨by decide +kernel, by decide +kernel, by decide +kernel⟩⟩
theorem sy_X5_persons : SY yX5_persons cX5_persons 2 (some .int) 1 := ⟨kw_235, kw_8, kw_236, ⟨by decide +kernel, by decide +kernel, by decide +kernel⟩⟩
theorem sy_X5_allSecrets : SY yX5_allSecrets cX5_allSecrets 2 (some .int) 1 := ⟨kw_437, kw_8, kw_438, ⟨by decide +kernel, by decide +kernel, by decide +kernel⟩⟩
theorem sy_X5_allNumbers : SY yX5_allNumbers cX5_allNumbers 2 (some .int) 1 := ⟨kw_548, kw_8, kw_549, ⟨by decide +kernel, by decide +kernel, by decide +kernel⟩⟩
theorem sy_X5_partOf : SY yX5_partOf cX5_partOf 2 (some .int) 2 := ⟨kw_532, kw_8, kw_533, ⟨by decide +kernel, by decide +kernel, by decide +kernel⟩⟩
theorem sy_X5_secretsOf : SY yX5_secretsOf cX5_secretsOf 3 (some .int) 2 := ⟨kw_238, kw_8, kw_239, ⟨by decide +kernel, by decide +kernel, by decide +kernel⟩⟩
theorem sy_X5_numbersOf : SY yX5_numbersOf cX5_numbersOf 3 (some .int) 2 := ⟨kw_241, kw_8, kw_242, ⟨by decide +kernel, by decide +kernel, by decide +kernel⟩⟩
theorem sy_X5_hasToken : SY yX5_hasToken cX5_hasToken 5 (some .boolean) 3 := ⟨kw_255, kw_8, kw_256, ⟨by decide +kernel, by decide +kernel, by decide +kernel⟩⟩
theorem sy_X5_everySecret : SY yX5_everySecret cX5_everySecret 2 (some .int) 1 := ⟨kw_248, kw_8, kw_249, ⟨by decide +kernel, by decide +kernel, by decide +kernel⟩⟩
theorem sy_X5_isExpert : SY yX5_isExpert cX5_isExpert 3 (some .boolean) 2 := ⟨kw_244, kw_8, kw_245, ⟨by decide +kernel, by decide +kernel, by decide +kernel⟩⟩
theorem sy_X5_experts : SY yX5_experts cX5_experts 5 (some .int) 1 := ⟨kw_729, kw_8, kw_730, ⟨by decide +kernel, by decide +kernel, by decide +kernel⟩⟩
theorem sy_X5_allAreExperts : SY yX5_allAreExperts cX5_allAreExperts 3 (some .boolean) 1 := ⟨kw_434, kw_8, kw_435, ⟨by decide +kernel, by decide +kernel, by decide +kernel⟩⟩
theorem sy_X5_whomMay : SY yX5_whomMay cX5_whomMay 9 (some .int) 3 := ⟨kw_369, kw_8, kw_370, ⟨by decide +kernel, by decide +kernel, by decide +kernel⟩⟩
theorem sy_X5_ring : SY yX5_ring cX5_ring 14 (some .long) 3 := ⟨kw_269, kw_8, kw_270, ⟨by decide +kernel, by decide +kernel, by decide +kernel⟩⟩
theorem sy_X5_keyFor : SY yX5_keyFor cX5_keyFor 6 (some .long) 3 := ⟨kw_402, kw_8, kw_403, ⟨by decide +kernel, by decide +kernel, by decide +kernel⟩⟩
theorem ny_X6_init : NY yX6_init cX6_init 1 0 := ⟨kw_44, rfl, kw_3, kw_45, ⟨by decide +kernel, by decide +kernel, by decide +kernel⟩⟩
theorem iy_X6_all : IY yX6_all cX6_all 5 (some .long) 2 := ⟨kw_387, kw_388, kw_3, kw_389, ⟨by decide +kernel, by decide +kernel, by decide +kernel⟩⟩
theorem iy_X6_good : IY yX6_good cX6_good 5 (some .long) 2 := ⟨kw_448, kw_449, kw_3, kw_450, ⟨by decide +kernel, by decide +kernel, by decide +kernel⟩⟩
theorem iy_X6_fewest : IY yX6_fewest cX6_fewest 5 (some .int) 2 := ⟨kw_464, kw_465, kw_3, kw_466, ⟨by decide +kernel, by decide +kernel, by decide +kernel⟩⟩
theorem iy_X6_most : IY yX6_most cX6_most 5 (some .int) 2 := ⟨kw_468, kw_469, kw_3, kw_470, ⟨by decide +kernel, by decide +kernel, by decide +kernel⟩⟩
theorem iy_X6_judge : IY yX6_judge cX6_judge 5 (some .int) 2 := ⟨kw_456, kw_457, kw_3, kw_458, ⟨by decide +kernel, by decide +kernel, by decide +kernel⟩⟩
theorem iy_X6_bestPair : IY yX6_bestPair cX6_bestPair 9 (some .int) 2 := ⟨kw_480, kw_481, kw_3, kw_482, ⟨by decide +kernel, by decide +kernel, by decide +kernel⟩⟩
theorem iy_X6_areWithin : IY yX6_areWithin cX6_areWithin 5 (some .boolean) 3 := ⟨kw_607, kw_608, kw_3, kw_609, ⟨by decide +kernel, by decide +kernel, by decide +kernel⟩⟩
theorem iy_X6_count : IY yX6_count cX6_count 19 (some .int) 3 := ⟨kw_392, ks_X6_count, kw_3, kw_393, ⟨by decide +kernel, by decide +kernel, by decide +kernel⟩⟩
theorem iy_X6_keep : IY yX6_keep cX6_keep 10 (some .int) 5 := ⟨kw_427, ks_X6_keep, kw_3, kw_428, ⟨by decide +kernel, by decide +kernel, by decide +kernel⟩⟩
theorem iy_X6_include : IY yX6_include cX6_include 12 (some .boolean) 4 := ⟨kw_612, ks_X6_include, kw_3, kw_613, ⟨by decide +kernel, by decide +kernel, by decide +kernel⟩⟩
theorem ny_X7_init : NY yX7_init cX7_init 3 2 := ⟨kw_620, rfl, kw_16, kw_621, ⟨by decide +kernel, by decide +kernel, by decide +kernel⟩⟩
theorem iy_X7_has : IY yX7_has cX7_has 3 (some .boolean) 2 := ⟨kw_161, kw_162, kw_16, kw_163, ⟨by decide +kernel, by decide +kernel, by decide +kernel⟩⟩
theorem iy_X7_at : IY yX7_at cX7_at 2 (some .int) 1 := ⟨kw_188, kw_189, kw_16, kw_190, ⟨by decide +kernel, by decide +kernel, by decide +kernel⟩⟩
theorem iy_X7_set : IY yX7_set cX7_set 3 none 2 := ⟨kw_641, kw_642, kw_16, kw_643, ⟨by decide +kernel, by decide +kernel, by decide +kernel⟩⟩
theorem iy_X7_cut : IY yX7_cut cX7_cut 2 (some .int) 1 := ⟨kw_646, ks_X7_cut, kw_16, kw_647, ⟨by decide +kernel, by decide +kernel, by decide +kernel⟩⟩
theorem ny_X8_init : NY yX8_init cX8_init 1 0 := ⟨kw_50, rfl, kw_4, kw_51, ⟨by decide +kernel, by decide +kernel, by decide +kernel⟩⟩
theorem iy_X8_makeRoom : IY yX8_makeRoom cX8_makeRoom 1 none 0 := ⟨kw_395, kw_396, kw_4, kw_397, ⟨by decide +kernel, by decide +kernel, by decide +kernel⟩⟩
theorem iy_X8_find : IY yX8_find cX8_find 4 (some .int) 1 := ⟨kw_407, kw_408, kw_4, kw_409, ⟨by decide +kernel, by decide +kernel, by decide +kernel⟩⟩
theorem iy_X8_take : IY yX8_take cX8_take 4 (some .int) 1 := ⟨kw_430, kw_431, kw_4, kw_432, ⟨by decide +kernel, by decide +kernel, by decide +kernel⟩⟩
theorem iy_X8_slotFor : IY yX8_slotFor cX8_slotFor 6 (some .int) 1 := ⟨kw_412, ks_X8_slotFor, kw_4, kw_413, ⟨by decide +kernel, by decide +kernel, by decide +kernel⟩⟩
theorem ny_X9_init : NY yX9_init cX9_init 1 0 := ⟨kw_33, rfl, kw_2, kw_34, ⟨by decide +kernel, by decide +kernel, by decide +kernel⟩⟩
theorem iy_X9_leave : IY yX9_leave cX9_leave 2 none 1 := ⟨kw_672, kw_673, kw_2, kw_674, ⟨by decide +kernel, by decide +kernel, by decide +kernel⟩⟩
theorem ny_X10_init : NY yX10_init cX10_init 8 5 := ⟨kw_308, rfl, kw_11, kw_309, ⟨by decide +kernel, by decide +kernel, by decide +kernel⟩⟩
theorem ny_X11_init : NY yX11_init cX11_init 1 0 := ⟨kw_21, rfl, kw_1, kw_22, ⟨by decide +kernel, by decide +kernel, by decide +kernel⟩⟩
theorem iy_X11_net : IY yX11_net cX11_net 8 (some .int) 4 := ⟨kw_145, kw_146, kw_1, kw_147, ⟨by decide +kernel, by decide +kernel, by decide +kernel⟩⟩
theorem iy_X11_ofPerson : IY yX11_ofPerson cX11_ofPerson 3 (some .int) 2 := ⟨kw_227, kw_228, kw_1, kw_229, ⟨by decide +kernel, by decide +kernel, by decide +kernel⟩⟩
theorem iy_X11_call : IY yX11_call cX11_call 4 (some .int) 2 := ⟨kw_258, kw_259, kw_1, kw_260, ⟨by decide +kernel, by decide +kernel, by decide +kernel⟩⟩
theorem iy_X11_ofCall : IY yX11_ofCall cX11_ofCall 4 (some .int) 2 := ⟨kw_330, kw_331, kw_1, kw_332, ⟨by decide +kernel, by decide +kernel, by decide +kernel⟩⟩
theorem iy_X11_back : IY yX11_back cX11_back 2 (some .int) 0 := ⟨kw_357, kw_358, kw_1, kw_359, ⟨by decide +kernel, by decide +kernel, by decide +kernel⟩⟩
theorem iy_X11_may : IY yX11_may cX11_may 3 (some .int) 2 := ⟨kw_361, kw_362, kw_1, kw_363, ⟨by decide +kernel, by decide +kernel, by decide +kernel⟩⟩
theorem iy_X11_runs : IY yX11_runs cX11_runs 3 (some .long) 2 := ⟨kw_374, kw_375, kw_1, kw_376, ⟨by decide +kernel, by decide +kernel, by decide +kernel⟩⟩
theorem iy_X11_verdict : IY yX11_verdict cX11_verdict 2 (some .int) 1 := ⟨kw_452, kw_453, kw_1, kw_454, ⟨by decide +kernel, by decide +kernel, by decide +kernel⟩⟩
theorem iy_X11_calls : IY yX11_calls cX11_calls 3 (some .int) 2 := ⟨kw_460, kw_461, kw_1, kw_462, ⟨by decide +kernel, by decide +kernel, by decide +kernel⟩⟩
theorem iy_X11_keeps : IY yX11_keeps cX11_keeps 4 (some .int) 3 := ⟨kw_472, kw_473, kw_1, kw_474, ⟨by decide +kernel, by decide +kernel, by decide +kernel⟩⟩
theorem iy_X11_best : IY yX11_best cX11_best 4 (some .int) 2 := ⟨kw_476, kw_477, kw_1, kw_478, ⟨by decide +kernel, by decide +kernel, by decide +kernel⟩⟩
theorem iy_X11_alike : IY yX11_alike cX11_alike 2 (some .int) 1 := ⟨kw_492, kw_493, kw_1, kw_494, ⟨by decide +kernel, by decide +kernel, by decide +kernel⟩⟩
theorem iy_X11_sure : IY yX11_sure cX11_sure 4 (some .int) 3 := ⟨kw_520, kw_521, kw_1, kw_522, ⟨by decide +kernel, by decide +kernel, by decide +kernel⟩⟩
theorem iy_X11_known : IY yX11_known cX11_known 3 (some .int) 2 := ⟨kw_535, kw_536, kw_1, kw_537, ⟨by decide +kernel, by decide +kernel, by decide +kernel⟩⟩
theorem iy_X11_end : IY yX11_end cX11_end 4 (some .int) 1 := ⟨kw_539, kw_540, kw_1, kw_541, ⟨by decide +kernel, by decide +kernel, by decide +kernel⟩⟩
theorem iy_X11_joined : IY yX11_joined cX11_joined 1 (some .int) 0 := ⟨kw_544, kw_545, kw_1, kw_546, ⟨by decide +kernel, by decide +kernel, by decide +kernel⟩⟩
theorem iy_X11_bridge : IY yX11_bridge cX11_bridge 4 (some .int) 1 := ⟨kw_560, kw_561, kw_1, kw_562, ⟨by decide +kernel, by decide +kernel, by decide +kernel⟩⟩
theorem iy_X11_sun : IY yX11_sun cX11_sun 1 (some .int) 0 := ⟨kw_576, kw_577, kw_1, kw_578, ⟨by decide +kernel, by decide +kernel, by decide +kernel⟩⟩
theorem iy_X11_mend : IY yX11_mend cX11_mend 3 (some .int) 2 := ⟨kw_583, kw_584, kw_1, kw_585, ⟨by decide +kernel, by decide +kernel, by decide +kernel⟩⟩
theorem iy_X11_nets : IY yX11_nets cX11_nets 5 (some .int) 3 := ⟨kw_592, kw_593, kw_1, kw_594, ⟨by decide +kernel, by decide +kernel, by decide +kernel⟩⟩
theorem iy_X11_within : IY yX11_within cX11_within 3 (some .int) 2 := ⟨kw_603, kw_604, kw_1, kw_605, ⟨by decide +kernel, by decide +kernel, by decide +kernel⟩⟩
theorem iy_X11_sheet : IY yX11_sheet cX11_sheet 4 (some .int) 3 := ⟨kw_615, kw_616, kw_1, kw_617, ⟨by decide +kernel, by decide +kernel, by decide +kernel⟩⟩
theorem iy_X11_lose : IY yX11_lose cX11_lose 2 (some .int) 1 := ⟨kw_633, kw_634, kw_1, kw_635, ⟨by decide +kernel, by decide +kernel, by decide +kernel⟩⟩
theorem iy_X11_put : IY yX11_put cX11_put 5 (some .int) 3 := ⟨kw_637, kw_638, kw_1, kw_639, ⟨by decide +kernel, by decide +kernel, by decide +kernel⟩⟩
theorem iy_X11_cell : IY yX11_cell cX11_cell 5 (some .long) 3 := ⟨kw_649, kw_650, kw_1, kw_651, ⟨by decide +kernel, by decide +kernel, by decide +kernel⟩⟩
theorem iy_X11_copy : IY yX11_copy cX11_copy 8 (some .int) 5 := ⟨kw_654, kw_655, kw_1, kw_656, ⟨by decide +kernel, by decide +kernel, by decide +kernel⟩⟩
theorem iy_X11_tell : IY yX11_tell cX11_tell 3 (some .int) 1 := ⟨kw_661, kw_662, kw_1, kw_663, ⟨by decide +kernel, by decide +kernel, by decide +kernel⟩⟩
theorem iy_X11_log : IY yX11_log cX11_log 3 (some .int) 1 := ⟨kw_700, kw_701, kw_1, kw_702, ⟨by decide +kernel, by decide +kernel, by decide +kernel⟩⟩
theorem iy_X11_as : IY yX11_as cX11_as 4 (some .int) 2 := ⟨kw_713, kw_714, kw_1, kw_715, ⟨by decide +kernel, by decide +kernel, by decide +kernel⟩⟩
theorem iy_X11_trace : IY yX11_trace cX11_trace 1 (some .int) 0 := ⟨kw_717, kw_718, kw_1, kw_719, ⟨by decide +kernel, by decide +kernel, by decide +kernel⟩⟩
theorem iy_X11_fault : IY yX11_fault cX11_fault 1 (some .int) 0 := ⟨kw_721, kw_722, kw_1, kw_723, ⟨by decide +kernel, by decide +kernel, by decide +kernel⟩⟩
theorem iy_X11_many : IY yX11_many cX11_many 2 (some .int) 1 := ⟨kw_725, kw_726, kw_1, kw_727, ⟨by decide +kernel, by decide +kernel, by decide +kernel⟩⟩
theorem iy_X11_isSheet : IY yX11_isSheet cX11_isSheet 2 (some .boolean) 1 := ⟨kw_150, ks_X11_isSheet, kw_1, kw_151, ⟨by decide +kernel, by decide +kernel, by decide +kernel⟩⟩
theorem iy_X11_isLane : IY yX11_isLane cX11_isLane 2 (some .boolean) 1 := ⟨kw_154, ks_X11_isLane, kw_1, kw_155, ⟨by decide +kernel, by decide +kernel, by decide +kernel⟩⟩
theorem iy_X11_isRule : IY yX11_isRule cX11_isRule 2 (some .boolean) 1 := ⟨kw_366, ks_X11_isRule, kw_1, kw_367, ⟨by decide +kernel, by decide +kernel, by decide +kernel⟩⟩
theorem iy_X11_isPerson : IY yX11_isPerson cX11_isPerson 2 (some .boolean) 1 := ⟨kw_232, ks_X11_isPerson, kw_1, kw_233, ⟨by decide +kernel, by decide +kernel, by decide +kernel⟩⟩
theorem iy_X11_isEither : IY yX11_isEither cX11_isEither 2 (some .boolean) 1 := ⟨kw_379, ks_X11_isEither, kw_1, kw_380, ⟨by decide +kernel, by decide +kernel, by decide +kernel⟩⟩
theorem iy_X11_isPlaceOfNumber : IY yX11_isPlaceOfNumber cX11_isPlaceOfNumber 2 (some .boolean) 1 := ⟨kw_565, ks_X11_isPlaceOfNumber, kw_1, kw_566, ⟨by decide +kernel, by decide +kernel, by decide +kernel⟩⟩
theorem iy_X11_noPersons : IY yX11_noPersons cX11_noPersons 1 (some .boolean) 0 := ⟨kw_383, ks_X11_noPersons, kw_1, kw_384, ⟨by decide +kernel, by decide +kernel, by decide +kernel⟩⟩
theorem iy_X11_callAt : IY yX11_callAt cX11_callAt 2 (some (.object "CallRounds$Call")) 1 := ⟨kw_335, ks_X11_callAt, kw_1, kw_336, ⟨by decide +kernel, by decide +kernel, by decide +kernel⟩⟩
theorem iy_X11_faulted : IY yX11_faulted cX11_faulted 2 (some .int) 1 := ⟨kw_158, ks_X11_faulted, kw_1, kw_159, ⟨by decide +kernel, by decide +kernel, by decide +kernel⟩⟩
theorem iy_X11_begin : IY yX11_begin cX11_begin 3 none 1 := ⟨kw_216, ks_X11_begin, kw_1, kw_217, ⟨by decide +kernel, by decide +kernel, by decide +kernel⟩⟩
theorem iy_X11_moveTo : IY yX11_moveTo cX11_moveTo 3 none 1 := ⟨kw_220, ks_X11_moveTo, kw_1, kw_221, ⟨by decide +kernel, by decide +kernel, by decide +kernel⟩⟩
theorem iy_X11_newCall : IY yX11_newCall cX11_newCall 6 (some (.object "CallRounds$Call")) 3 := ⟨kw_266, ks_X11_newCall, kw_1, kw_267, ⟨by decide +kernel, by decide +kernel, by decide +kernel⟩⟩
theorem iy_X11_surelyHad : IY yX11_surelyHad cX11_surelyHad 3 (some .int) 2 := ⟨kw_525, ks_X11_surelyHad, kw_1, kw_526, ⟨by decide +kernel, by decide +kernel, by decide +kernel⟩⟩
theorem iy_X11_findMending : IY yX11_findMending cX11_findMending 8 (some .int) 1 := ⟨kw_588, ks_X11_findMending, kw_1, kw_589, ⟨by decide +kernel, by decide +kernel, by decide +kernel⟩⟩
theorem iy_X11_countNets : IY yX11_countNets cX11_countNets 7 none 3 := ⟨kw_597, ks_X11_countNets, kw_1, kw_598, ⟨by decide +kernel, by decide +kernel, by decide +kernel⟩⟩
theorem sy_X11_truth : SY yX11_truth cX11_truth 1 (some .int) 1 := ⟨kw_252, kw_1, kw_253, ⟨by decide +kernel, by decide +kernel, by decide +kernel⟩⟩
theorem sy_X11_contains : SY yX11_contains cX11_contains 2 (some .boolean) 2 := ⟨kw_262, kw_1, kw_263, ⟨by decide +kernel, by decide +kernel, by decide +kernel⟩⟩
theorem sy_X11_pairOf : SY yX11_pairOf cX11_pairOf 2 (some .int) 2 := ⟨kw_197, kw_1, kw_198, ⟨by decide +kernel, by decide +kernel, by decide +kernel⟩⟩
theorem sy_X11_ringerOf : SY yX11_ringerOf cX11_ringerOf 1 (some .int) 1 := ⟨kw_486, kw_1, kw_487, ⟨by decide +kernel, by decide +kernel, by decide +kernel⟩⟩
theorem sy_X11_rungOf : SY yX11_rungOf cX11_rungOf 1 (some .int) 1 := ⟨kw_489, kw_1, kw_490, ⟨by decide +kernel, by decide +kernel, by decide +kernel⟩⟩
theorem sy_X11_countOrPick : SY yX11_countOrPick cX11_countOrPick 4 (some .int) 2 := ⟨kw_572, kw_1, kw_573, ⟨by decide +kernel, by decide +kernel, by decide +kernel⟩⟩
theorem ny_X12_init : NY yX12_init cX12_init 1 0 := ⟨kw_735, rfl, kw_6, kw_736, ⟨by decide +kernel, by decide +kernel, by decide +kernel⟩⟩
theorem iy_X12_fails : IY yX12_fails cX12_fails 2 (some .int) 1 := ⟨kw_845, ks_X12_fails, kw_6, kw_846, ⟨by decide +kernel, by decide +kernel, by decide +kernel⟩⟩
theorem iy_X12_lost : IY yX12_lost cX12_lost 2 (some .long) 1 := ⟨kw_1066, ks_X12_lost, kw_6, kw_1067, ⟨by decide +kernel, by decide +kernel, by decide +kernel⟩⟩
theorem sy_X12_isIn : SY yX12_isIn cX12_isIn 3 (some .boolean) 3 := ⟨kw_838, kw_6, kw_839, ⟨by decide +kernel, by decide +kernel, by decide +kernel⟩⟩
theorem sy_X12_has : SY yX12_has cX12_has 2 (some .boolean) 2 := ⟨kw_852, kw_6, kw_853, ⟨by decide +kernel, by decide +kernel, by decide +kernel⟩⟩
theorem sy_X12_bitsOf : SY yX12_bitsOf cX12_bitsOf 3 (some .int) 1 := ⟨kw_908, kw_6, kw_909, ⟨by decide +kernel, by decide +kernel, by decide +kernel⟩⟩
theorem sy_X12_isSheet : SY yX12_isSheet cX12_isSheet 1 (some .boolean) 1 := ⟨kw_835, kw_6, kw_836, ⟨by decide +kernel, by decide +kernel, by decide +kernel⟩⟩
theorem sy_X12_isLane : SY yX12_isLane cX12_isLane 1 (some .boolean) 1 := ⟨kw_841, kw_6, kw_842, ⟨by decide +kernel, by decide +kernel, by decide +kernel⟩⟩
theorem iy_X12_isPerson : IY yX12_isPerson cX12_isPerson 2 (some .boolean) 1 := ⟨kw_860, ks_X12_isPerson, kw_6, kw_861, ⟨by decide +kernel, by decide +kernel, by decide +kernel⟩⟩
theorem sy_X12_isRule : SY yX12_isRule cX12_isRule 1 (some .boolean) 1 := ⟨kw_919, kw_6, kw_920, ⟨by decide +kernel, by decide +kernel, by decide +kernel⟩⟩
theorem iy_X12_net : IY yX12_net cX12_net 8 (some .int) 4 := ⟨kw_831, kw_832, kw_6, kw_833, ⟨by decide +kernel, by decide +kernel, by decide +kernel⟩⟩
theorem iy_X12_readAll : IY yX12_readAll cX12_readAll 7 (some .int) 2 := ⟨kw_849, ks_X12_readAll, kw_6, kw_850, ⟨by decide +kernel, by decide +kernel, by decide +kernel⟩⟩
theorem sy_X12_of : SY yX12_of cX12_of 2 (some .int) 2 := ⟨kw_875, kw_6, kw_876, ⟨by decide +kernel, by decide +kernel, by decide +kernel⟩⟩
theorem sy_X12_numbersOf : SY yX12_numbersOf cX12_numbersOf 5 (some .int) 3 := ⟨kw_878, kw_6, kw_879, ⟨by decide +kernel, by decide +kernel, by decide +kernel⟩⟩
theorem sy_X12_afterCall : SY yX12_afterCall cX12_afterCall 4 (some .int) 3 := ⟨kw_872, kw_6, kw_873, ⟨by decide +kernel, by decide +kernel, by decide +kernel⟩⟩
theorem iy_X12_startOf : IY yX12_startOf cX12_startOf 2 (some .int) 1 := ⟨kw_868, ks_X12_startOf, kw_6, kw_869, ⟨by decide +kernel, by decide +kernel, by decide +kernel⟩⟩
theorem iy_X12_areExperts : IY yX12_areExperts cX12_areExperts 4 (some .boolean) 2 := ⟨kw_955, ks_X12_areExperts, kw_6, kw_956, ⟨by decide +kernel, by decide +kernel, by decide +kernel⟩⟩
theorem iy_X12_stateAt : IY yX12_stateAt cX12_stateAt 4 (some .int) 1 := ⟨kw_864, ks_X12_stateAt, kw_6, kw_865, ⟨by decide +kernel, by decide +kernel, by decide +kernel⟩⟩
theorem sy_X12_tokensAfter : SY yX12_tokensAfter cX12_tokensAfter 4 (some .int) 4 := ⟨kw_885, kw_6, kw_886, ⟨by decide +kernel, by decide +kernel, by decide +kernel⟩⟩
theorem iy_X12_tokensNow : IY yX12_tokensNow cX12_tokensNow 4 (some .int) 1 := ⟨kw_882, ks_X12_tokensNow, kw_6, kw_883, ⟨by decide +kernel, by decide +kernel, by decide +kernel⟩⟩
theorem iy_X12_ofPerson : IY yX12_ofPerson cX12_ofPerson 4 (some .int) 2 := ⟨kw_855, kw_856, kw_6, kw_857, ⟨by decide +kernel, by decide +kernel, by decide +kernel⟩⟩
theorem iy_X12_call : IY yX12_call cX12_call 3 (some .int) 2 := ⟨kw_888, kw_889, kw_6, kw_890, ⟨by decide +kernel, by decide +kernel, by decide +kernel⟩⟩
theorem iy_X12_isCall : IY yX12_isCall cX12_isCall 2 (some .boolean) 1 := ⟨kw_897, ks_X12_isCall, kw_6, kw_898, ⟨by decide +kernel, by decide +kernel, by decide +kernel⟩⟩
theorem iy_X12_learnt : IY yX12_learnt cX12_learnt 3 (some .int) 2 := ⟨kw_905, ks_X12_learnt, kw_6, kw_906, ⟨by decide +kernel, by decide +kernel, by decide +kernel⟩⟩
theorem iy_X12_kindOf : IY yX12_kindOf cX12_kindOf 4 (some .int) 1 := ⟨kw_901, ks_X12_kindOf, kw_6, kw_902, ⟨by decide +kernel, by decide +kernel, by decide +kernel⟩⟩
theorem iy_X12_ofCall : IY yX12_ofCall cX12_ofCall 3 (some .int) 2 := ⟨kw_892, kw_893, kw_6, kw_894, ⟨by decide +kernel, by decide +kernel, by decide +kernel⟩⟩
theorem iy_X12_back : IY yX12_back cX12_back 1 (some .int) 0 := ⟨kw_911, kw_912, kw_6, kw_913, ⟨by decide +kernel, by decide +kernel, by decide +kernel⟩⟩
theorem sy_X12_mayRing : SY yX12_mayRing cX12_mayRing 6 (some .boolean) 6 := ⟨kw_922, kw_6, kw_923, ⟨by decide +kernel, by decide +kernel, by decide +kernel⟩⟩
theorem iy_X12_may : IY yX12_may cX12_may 5 (some .int) 2 := ⟨kw_915, kw_916, kw_6, kw_917, ⟨by decide +kernel, by decide +kernel, by decide +kernel⟩⟩
theorem sy_X12_placeOf : SY yX12_placeOf cX12_placeOf 7 (some .int) 2 := ⟨kw_942, kw_6, kw_943, ⟨by decide +kernel, by decide +kernel, by decide +kernel⟩⟩
theorem iy_X12_open : IY yX12_open cX12_open 5 none 3 := ⟨kw_947, ks_X12_open, kw_6, kw_948, ⟨by decide +kernel, by decide +kernel, by decide +kernel⟩⟩
theorem iy_X12_add : IY yX12_add cX12_add 3 none 2 := ⟨kw_959, ks_X12_add, kw_6, kw_960, ⟨by decide +kernel, by decide +kernel, by decide +kernel⟩⟩
theorem iy_X12_close : IY yX12_close cX12_close 4 none 2 := ⟨kw_951, ks_X12_close, kw_6, kw_952, ⟨by decide +kernel, by decide +kernel, by decide +kernel⟩⟩
theorem iy_X12_lay : IY yX12_lay cX12_lay 13 (some .int) 2 := ⟨kw_939, ks_X12_lay, kw_6, kw_940, ⟨by decide +kernel, by decide +kernel, by decide +kernel⟩⟩
theorem iy_X12_lookAt : IY yX12_lookAt cX12_lookAt 4 none 3 := ⟨kw_935, ks_X12_lookAt, kw_6, kw_936, ⟨by decide +kernel, by decide +kernel, by decide +kernel⟩⟩
theorem iy_X12_layNow : IY yX12_layNow cX12_layNow 2 (some .int) 1 := ⟨kw_931, ks_X12_layNow, kw_6, kw_932, ⟨by decide +kernel, by decide +kernel, by decide +kernel⟩⟩
theorem iy_X12_runs : IY yX12_runs cX12_runs 4 (some .long) 2 := ⟨kw_925, kw_926, kw_6, kw_927, ⟨by decide +kernel, by decide +kernel, by decide +kernel⟩⟩
theorem iy_X12_verdictAt : IY yX12_verdictAt cX12_verdictAt 2 (some .int) 1 := ⟨kw_967, ks_X12_verdictAt, kw_6, kw_968, ⟨by decide +kernel, by decide +kernel, by decide +kernel⟩⟩
theorem iy_X12_verdict : IY yX12_verdict cX12_verdict 2 (some .int) 1 := ⟨kw_962, kw_963, kw_6, kw_964, ⟨by decide +kernel, by decide +kernel, by decide +kernel⟩⟩
theorem iy_X12_calls : IY yX12_calls cX12_calls 4 (some .int) 2 := ⟨kw_970, kw_971, kw_6, kw_972, ⟨by decide +kernel, by decide +kernel, by decide +kernel⟩⟩
theorem iy_X12_keeps : IY yX12_keeps cX12_keeps 6 (some .int) 3 := ⟨kw_974, kw_975, kw_6, kw_976, ⟨by decide +kernel, by decide +kernel, by decide +kernel⟩⟩
theorem iy_X12_best : IY yX12_best cX12_best 10 (some .int) 2 := ⟨kw_978, kw_979, kw_6, kw_980, ⟨by decide +kernel, by decide +kernel, by decide +kernel⟩⟩
theorem iy_X12_layRow : IY yX12_layRow cX12_layRow 5 (some .int) 1 := ⟨kw_991, ks_X12_layRow, kw_6, kw_992, ⟨by decide +kernel, by decide +kernel, by decide +kernel⟩⟩
theorem iy_X12_seesAlike : IY yX12_seesAlike cX12_seesAlike 7 (some .boolean) 1 := ⟨kw_995, ks_X12_seesAlike, kw_6, kw_996, ⟨by decide +kernel, by decide +kernel, by decide +kernel⟩⟩
theorem iy_X12_layAlike : IY yX12_layAlike cX12_layAlike 5 none 1 := ⟨kw_987, ks_X12_layAlike, kw_6, kw_988, ⟨by decide +kernel, by decide +kernel, by decide +kernel⟩⟩
theorem iy_X12_alike : IY yX12_alike cX12_alike 2 (some .int) 1 := ⟨kw_982, kw_983, kw_6, kw_984, ⟨by decide +kernel, by decide +kernel, by decide +kernel⟩⟩
theorem iy_X12_sure : IY yX12_sure cX12_sure 4 (some .int) 3 := ⟨kw_998, kw_999, kw_6, kw_1000, ⟨by decide +kernel, by decide +kernel, by decide +kernel⟩⟩
theorem iy_X12_known : IY yX12_known cX12_known 3 (some .int) 2 := ⟨kw_1002, kw_1003, kw_6, kw_1004, ⟨by decide +kernel, by decide +kernel, by decide +kernel⟩⟩
theorem iy_X12_end : IY yX12_end cX12_end 2 (some .int) 1 := ⟨kw_1006, kw_1007, kw_6, kw_1008, ⟨by decide +kernel, by decide +kernel, by decide +kernel⟩⟩
theorem sy_X12_isJoined : SY yX12_isJoined cX12_isJoined 6 (some .boolean) 2 := ⟨kw_1014, kw_6, kw_1015, ⟨by decide +kernel, by decide +kernel, by decide +kernel⟩⟩
theorem iy_X12_joined : IY yX12_joined cX12_joined 1 (some .int) 0 := ⟨kw_1010, kw_1011, kw_6, kw_1012, ⟨by decide +kernel, by decide +kernel, by decide +kernel⟩⟩
theorem iy_X12_layOther : IY yX12_layOther cX12_layOther 4 none 2 := ⟨kw_1022, ks_X12_layOther, kw_6, kw_1023, ⟨by decide +kernel, by decide +kernel, by decide +kernel⟩⟩
theorem iy_X12_bridge : IY yX12_bridge cX12_bridge 5 (some .int) 1 := ⟨kw_1017, kw_1018, kw_6, kw_1019, ⟨by decide +kernel, by decide +kernel, by decide +kernel⟩⟩
theorem iy_X12_sun : IY yX12_sun cX12_sun 6 (some .int) 0 := ⟨kw_1025, kw_1026, kw_6, kw_1027, ⟨by decide +kernel, by decide +kernel, by decide +kernel⟩⟩
theorem iy_X12_verdictFrom : IY yX12_verdictFrom cX12_verdictFrom 4 (some .int) 3 := ⟨kw_1034, ks_X12_verdictFrom, kw_6, kw_1035, ⟨by decide +kernel, by decide +kernel, by decide +kernel⟩⟩
theorem iy_X12_mend : IY yX12_mend cX12_mend 6 (some .int) 2 := ⟨kw_1029, kw_1030, kw_6, kw_1031, ⟨by decide +kernel, by decide +kernel, by decide +kernel⟩⟩
theorem iy_X12_layNet : IY yX12_layNet cX12_layNet 6 none 2 := ⟨kw_1042, ks_X12_layNet, kw_6, kw_1043, ⟨by decide +kernel, by decide +kernel, by decide +kernel⟩⟩
theorem iy_X12_nets : IY yX12_nets cX12_nets 6 (some .int) 3 := ⟨kw_1037, kw_1038, kw_6, kw_1039, ⟨by decide +kernel, by decide +kernel, by decide +kernel⟩⟩
theorem iy_X12_within : IY yX12_within cX12_within 14 (some .int) 2 := ⟨kw_1045, kw_1046, kw_6, kw_1047, ⟨by decide +kernel, by decide +kernel, by decide +kernel⟩⟩
theorem iy_X12_sheet : IY yX12_sheet cX12_sheet 5 (some .int) 3 := ⟨kw_1049, kw_1050, kw_6, kw_1051, ⟨by decide +kernel, by decide +kernel, by decide +kernel⟩⟩
theorem iy_X12_lose : IY yX12_lose cX12_lose 3 (some .int) 1 := ⟨kw_1053, kw_1054, kw_6, kw_1055, ⟨by decide +kernel, by decide +kernel, by decide +kernel⟩⟩
theorem iy_X12_put : IY yX12_put cX12_put 4 (some .int) 3 := ⟨kw_1057, kw_1058, kw_6, kw_1059, ⟨by decide +kernel, by decide +kernel, by decide +kernel⟩⟩
theorem iy_X12_cell : IY yX12_cell cX12_cell 4 (some .long) 3 := ⟨kw_1061, kw_1062, kw_6, kw_1063, ⟨by decide +kernel, by decide +kernel, by decide +kernel⟩⟩
theorem iy_X12_copy : IY yX12_copy cX12_copy 10 (some .int) 5 := ⟨kw_1069, kw_1070, kw_6, kw_1071, ⟨by decide +kernel, by decide +kernel, by decide +kernel⟩⟩
theorem iy_X12_begins : IY yX12_begins cX12_begins 2 none 1 := ⟨kw_1078, ks_X12_begins, kw_6, kw_1079, ⟨by decide +kernel, by decide +kernel, by decide +kernel⟩⟩
theorem iy_X12_tell : IY yX12_tell cX12_tell 4 (some .int) 1 := ⟨kw_1073, kw_1074, kw_6, kw_1075, ⟨by decide +kernel, by decide +kernel, by decide +kernel⟩⟩
theorem iy_X12_log : IY yX12_log cX12_log 3 (some .int) 1 := ⟨kw_1081, kw_1082, kw_6, kw_1083, ⟨by decide +kernel, by decide +kernel, by decide +kernel⟩⟩
theorem iy_X12_as : IY yX12_as cX12_as 3 (some .int) 2 := ⟨kw_1085, kw_1086, kw_6, kw_1087, ⟨by decide +kernel, by decide +kernel, by decide +kernel⟩⟩
theorem iy_X12_trace : IY yX12_trace cX12_trace 1 (some .int) 0 := ⟨kw_1089, kw_1090, kw_6, kw_1091, ⟨by decide +kernel, by decide +kernel, by decide +kernel⟩⟩
theorem iy_X12_fault : IY yX12_fault cX12_fault 1 (some .int) 0 := ⟨kw_1093, kw_1094, kw_6, kw_1095, ⟨by decide +kernel, by decide +kernel, by decide +kernel⟩⟩
theorem iy_X12_many : IY yX12_many cX12_many 5 (some .int) 1 := ⟨kw_1097, kw_1098, kw_6, kw_1099, ⟨by decide +kernel, by decide +kernel, by decide +kernel⟩⟩
theorem sy_J6_bitCount_0f7a4 : SY yJ6_bitCount_0f7a4 cJ6_bitCount_0f7a4 1 (some .int) 1 := ⟨kw_441, kw_14, kw_442, ⟨by decide +kernel, by decide +kernel, by decide +kernel⟩⟩
theorem sy_J9_max_7cf53 : SY yJ9_max_7cf53 cJ9_max_7cf53 2 (some .int) 2 := ⟨kw_423, kw_13, kw_424, ⟨by decide +kernel, by decide +kernel, by decide +kernel⟩⟩
theorem sy_J9_min_7cf53 : SY yJ9_min_7cf53 cJ9_min_7cf53 2 (some .int) 2 := ⟨kw_420, kw_13, kw_421, ⟨by decide +kernel, by decide +kernel, by decide +kernel⟩⟩
theorem sy_J7_fill_d0a16 : SY yJ7_fill_d0a16 cJ7_fill_d0a16 5 none 2 := ⟨kw_399, kw_12, kw_400, ⟨by decide +kernel, by decide +kernel, by decide +kernel⟩⟩
end
section
section B4
variable {p : Program} {l : Launch} {e : Env} {R : Room} {s : State} {m : MethodId} {args : Array Value} {below : List Frame} {meth : Method} {c : Code} {H H0 : Heap} {locs : List Loc} {cells slots : Nat} {Q : State → Prop} {pc : Nat} {ls : Array Slot} {rest : List Value} {cc : ByteArray} {E : EE} {ws : va_W} {A : Nat → Prop} {a : Nat}
theorem top_i {x y : Int32} (h : x = y) (k : W p l e R s m args below meth c H locs cells slots Q (F0 m pc ls (.int y :: rest))) : W p l e R s m args below meth c H locs cells slots Q (F0 m pc ls (.int x :: rest)) := h ▸ k
theorem top_l {x y : Int64} (h : x = y) (k : W p l e R s m args below meth c H locs cells slots Q (F0 m pc ls (.long y :: rest))) : W p l e R s m args below meth c H locs cells slots Q (F0 m pc ls (.long x :: rest)) := h ▸ k
theorem ii_1 (x : Nat) : nI x + Int32.ofInt 1 = nI (x + 1) := nI_1 x
theorem ii_6 (x : Nat) : nI x + Int32.ofInt 6 = nI (x + 6) := nI_add x 6
theorem ii_m1 {x : Nat} (h : 0 < x) : nI x + Int32.ofInt (-1) = nI (x - 1) := by
  obtain ⟨y, rfl⟩ : ∃ y, x = y + 1 := ⟨x - 1, by omega⟩
  exact pk_m1 y
theorem upd_nI (f : Nat → Nat) (i x : Nat) : upd (fun j => nI (f j)) i (nI x) = fun j => nI (va_up f i x j) := by
  funext j; simp only [upd, va_up]; split <;> rfl
theorem updL_lN (f : Nat → Nat) (i x : Nat) : vp_updL (fun j => lN (f j)) i (lN x) = fun j => lN (va_up f i x j) := by
  funext j; simp only [vp_updL, va_up]; split <;> rfl
theorem vb_nar {x : Nat} (h : x < 128) : vp_nar .byte (nI x) = nI x := by
  rw [vp_nar_byte]
  have : ∀ x, x < 128 → (nI x).toInt8.toInt32 = nI x := by decide +kernel
  exact this x h
variable {n : Nat} {j : Nat}
theorem n_iald (hx : p.tables.exec = Jvm.exec) (hb : c.code = cc) (hK : va_K E.1 vwCl (tyE E) s) (hP : va_P E.1 vwCl ws H) (q0 : Nat) {f : Nat → Int32} (ha : ws[q0]? = some (a, .inl (E.2 1, n, .inl f))) (hj : j < n) (hn : n < 2 ^ 31) (hdg : decode cc pc = .ok (.iaload, 1))
    (k : W p l e R s m args below meth c H locs cells slots Q (F0 m (pc + 1) ls (.int (f j) :: rest))) : W p l e R s m args below meth c H locs cells slots Q (F0 m pc ls (.int (nI j) :: .ref a :: rest)) :=
  va_iald hx hb hK hP q0 1 ha rfl (vp_in_nI hj hn) hdg (by rw [nI_clamp (by omega)]; exact k)
theorem n_bald (hx : p.tables.exec = Jvm.exec) (hb : c.code = cc) (hK : va_K E.1 vwCl (tyE E) s) (hP : va_P E.1 vwCl ws H) (q0 : Nat) {f : Nat → Int32} (ha : ws[q0]? = some (a, .inl (E.2 0, n, .inl f))) (hj : j < n) (hn : n < 2 ^ 31) (hdg : decode cc pc = .ok (.baload, 1))
    (k : W p l e R s m args below meth c H locs cells slots Q (F0 m (pc + 1) ls (.int (f j) :: rest))) : W p l e R s m args below meth c H locs cells slots Q (F0 m pc ls (.int (nI j) :: .ref a :: rest)) :=
  va_bald hx hb hK hP q0 0 ha rfl (vp_in_nI hj hn) hdg (by rw [nI_clamp (by omega)]; exact k)
theorem n_lald (hx : p.tables.exec = Jvm.exec) (hb : c.code = cc) (hK : va_K E.1 vwCl (tyE E) s) (hP : va_P E.1 vwCl ws H) (q0 : Nat) {f : Nat → Int64} (ha : ws[q0]? = some (a, .inl (E.2 2, n, .inr (.inl f)))) (hj : j < n) (hn : n < 2 ^ 31) (hdg : decode cc pc = .ok (.laload, 1))
    (k : W p l e R s m args below meth c H locs cells slots Q (F0 m (pc + 1) ls (.long (f j) :: rest))) : W p l e R s m args below meth c H locs cells slots Q (F0 m pc ls (.int (nI j) :: .ref a :: rest)) :=
  va_lald hx hb hK hP q0 2 ha rfl (vp_in_nI hj hn) hdg (by rw [nI_clamp (by omega)]; exact k)
theorem n_iast (hx : p.tables.exec = Jvm.exec) (hb : c.code = cc) (hK : va_K E.1 vwCl (tyE E) s) (hP : va_P E.1 vwCl ws H) (hD : va_D A ws) (hS : va_S A H0 H locs) (q0 : Nat) {f : Nat → Nat} (ha : ws[q0]? = some (a, .inl (E.2 1, n, .inl (fun j => nI (f j))))) {x : Nat} (hj : j < n) (hn : n < 2 ^ 31) (hdg : decode cc pc = .ok (.iastore, 1))
    (kk : ∀ (H1 : Heap) (locs1 : List Loc), va_P E.1 vwCl (ws.set q0 (a, .inl (E.2 1, n, .inl (fun i => nI (va_up f j x i))))) H1 → va_D A (ws.set q0 (a, .inl (E.2 1, n, .inl (fun i => nI (va_up f j x i))))) → va_S A H0 H1 locs1 → W p l e R s m args below meth c H1 locs1 cells slots Q (F0 m (pc + 1) ls rest)) : W p l e R s m args below meth c H locs cells slots Q (F0 m pc ls (.int (nI x) :: .int (nI j) :: .ref a :: rest)) :=
  va_iast hx hb hK hP hD hS q0 1 ha rfl (vp_in_nI hj hn) hdg (by rw [nI_clamp (by omega), upd_nI]; exact kk)
theorem n_iastR (hx : p.tables.exec = Jvm.exec) (hb : c.code = cc) (hK : va_K E.1 vwCl (tyE E) s) (hP : va_P E.1 vwCl ws H) (hD : va_D A ws) (hS : va_S A H0 H locs) (q0 : Nat) {f : Nat → Int32} (ha : ws[q0]? = some (a, .inl (E.2 1, n, .inl f))) {x : Int32} (hj : j < n) (hn : n < 2 ^ 31) (hdg : decode cc pc = .ok (.iastore, 1))
    (kk : ∀ (H1 : Heap) (locs1 : List Loc), va_P E.1 vwCl (ws.set q0 (a, .inl (E.2 1, n, .inl (upd f j x)))) H1 → va_D A (ws.set q0 (a, .inl (E.2 1, n, .inl (upd f j x)))) → va_S A H0 H1 locs1 → W p l e R s m args below meth c H1 locs1 cells slots Q (F0 m (pc + 1) ls rest)) : W p l e R s m args below meth c H locs cells slots Q (F0 m pc ls (.int x :: .int (nI j) :: .ref a :: rest)) :=
  va_iast hx hb hK hP hD hS q0 1 ha rfl (vp_in_nI hj hn) hdg (by rw [nI_clamp (by omega)]; exact kk)
theorem n_bast (hx : p.tables.exec = Jvm.exec) (hb : c.code = cc) (hK : va_K E.1 vwCl (tyE E) s) (hP : va_P E.1 vwCl ws H) (hD : va_D A ws) (hS : va_S A H0 H locs) (q0 : Nat) {f : Nat → Nat} (ha : ws[q0]? = some (a, .inl (E.2 0, n, .inl (fun j => nI (f j))))) {x : Nat} (hx8 : x < 128) (hj : j < n) (hn : n < 2 ^ 31) (hdg : decode cc pc = .ok (.bastore, 1))
    (kk : ∀ (H1 : Heap) (locs1 : List Loc), va_P E.1 vwCl (ws.set q0 (a, .inl (E.2 0, n, .inl (fun i => nI (va_up f j x i))))) H1 → va_D A (ws.set q0 (a, .inl (E.2 0, n, .inl (fun i => nI (va_up f j x i))))) → va_S A H0 H1 locs1 → W p l e R s m args below meth c H1 locs1 cells slots Q (F0 m (pc + 1) ls rest)) : W p l e R s m args below meth c H locs cells slots Q (F0 m pc ls (.int (nI x) :: .int (nI j) :: .ref a :: rest)) :=
  va_bast hx hb hK hP hD hS q0 0 ha rfl (vp_in_nI hj hn) hdg (by rw [nI_clamp (by omega), vb_nar hx8, upd_nI]; exact kk)
theorem n_last (hx : p.tables.exec = Jvm.exec) (hb : c.code = cc) (hK : va_K E.1 vwCl (tyE E) s) (hP : va_P E.1 vwCl ws H) (hD : va_D A ws) (hS : va_S A H0 H locs) (q0 : Nat) {f : Nat → Nat} (ha : ws[q0]? = some (a, .inl (E.2 2, n, .inr (.inl (fun j => lN (f j)))))) {x : Nat} (hj : j < n) (hn : n < 2 ^ 31) (hdg : decode cc pc = .ok (.lastore, 1))
    (kk : ∀ (H1 : Heap) (locs1 : List Loc), va_P E.1 vwCl (ws.set q0 (a, .inl (E.2 2, n, .inr (.inl (fun i => lN (va_up f j x i)))))) H1 → va_D A (ws.set q0 (a, .inl (E.2 2, n, .inr (.inl (fun i => lN (va_up f j x i)))))) → va_S A H0 H1 locs1 → W p l e R s m args below meth c H1 locs1 cells slots Q (F0 m (pc + 1) ls rest)) : W p l e R s m args below meth c H locs cells slots Q (F0 m pc ls (.long (lN x) :: .int (nI j) :: .ref a :: rest)) :=
  va_last hx hb hK hP hD hS q0 2 ha rfl (vp_in_nI hj hn) hdg (by rw [nI_clamp (by omega), updL_lN]; exact kk)
theorem rz_iE {v w : Int32} {pc : Nat} {ls : Array Slot} {nL : Nat} {own : String} (hC : CX p s m meth c args cc nL (some .int) own) (hE : v = w) (hdg : decode cc pc = .ok (.ireturn, 1)) : W p l e R s m args below meth c s.heap [] 0 0 (MQ below (pz_Q (some (.int w))) args s 0 0 pz_F) (F0 m pc ls [.int v]) := by
  subst hE; exact rz_i hC rfl hdg
theorem nar_b (b : Bool) : narrow .boolean (.int (bI b)) = .int (bI b) := by cases b <;> rfl
theorem rz_bE {v : Int32} {b : Bool} {pc : Nat} {ls : Array Slot} {nL : Nat} {own : String} (hC : CX p s m meth c args cc nL (some .boolean) own) (hE : v = bI b) (hdg : decode cc pc = .ok (.ireturn, 1)) : W p l e R s m args below meth c s.heap [] 0 0 (MQ below (pz_Q (some (.int (bI b)))) args s 0 0 pz_F) (F0 m pc ls [.int v]) := by
  subst hE; exact rz_i hC (nar_b b) hdg
theorem rz_lE {v w : Int64} {pc : Nat} {ls : Array Slot} {nL : Nat} {own : String} (hC : CX p s m meth c args cc nL (some .long) own) (hE : v = w) (hdg : decode cc pc = .ok (.lreturn, 1)) : W p l e R s m args below meth c s.heap [] 0 0 (MQ below (pz_Q (some (.long w))) args s 0 0 pz_F) (F0 m pc ls [.long v]) := by
  subst hE; exact rz_l hC hdg
end B4
section B5
variable {p : Program} {l : Launch} {e : Env} {R : Room} {s : State} {m : MethodId} {args : Array Value} {below : List Frame} {meth : Method} {c : Code} {H H0 : Heap} {locs : List Loc} {cells slots mc ms : Nat} {Q : State → Prop} {pc : Nat} {ls : Array Slot} {st0 rest : List Value} {a : Array Value}
  {cc : ByteArray} {nL : Nat} {ret0 : Option FieldType} {own : String} {idx n mL : Nat} {y : MethodName} {b : ByteArray} {ret : Option FieldType} {rm : Room} {E : EE} {A : Nat → Prop} {o : Addr}
theorem W_heap {g : JFrame} (h : H = H0) (k : W p l e R s m args below meth c H locs cells slots Q g) : W p l e R s m args below meth c H0 locs cells slots Q g := h ▸ k
theorem cS_p {av : List Value} {v : Value} (hC : CX p s m meth c args cc nL ret0 own) (hM : Pz l y b mL ret rm av (some v)) (hl : Cond.methodLink own idx y ∈ tG) (hy : SY y b mL ret n) (hR : RM rm mL R) (hm : rm.cells = 0 ∧ rm.slots = 0) (hn : av.length = n) (hsz : ls.size = nL) (hst : st0 = av.reverse ++ rest) (hw : (rest.map fun v => v.category).sum ≤ 8) (hdg : decode cc pc = .ok (.invokestatic idx, 3)) (hf : cells ≤ R.cells ∧ slots ≤ R.slots)
    (k : W p l e R s m args below meth c H locs cells slots Q (F0 m (pc + 3) ls (v :: rest))) : W p l e R s m args below meth c H locs cells slots Q (F0 m pc ls st0) := cS_pz hC hM hl hy hR hm hn hsz hst hw hdg hf k
theorem cN_p {host : String} {av : List Value} {v : Value} (hC : CX p s m meth c args cc nL ret0 own) (hM : Pz l y b mL ret rm av (some v)) (hl : va_Nw (.methodLinkNest own idx y host) s) (hy : SY y b mL ret n) (hR : RM rm mL R) (hm : rm.cells = 0 ∧ rm.slots = 0) (hn : av.length = n) (hsz : ls.size = nL) (hst : st0 = av.reverse ++ rest) (hw : (rest.map fun v => v.category).sum ≤ 8) (hdg : decode cc pc = .ok (.invokestatic idx, 3)) (hf : cells ≤ R.cells ∧ slots ≤ R.slots)
    (k : W p l e R s m args below meth c H locs cells slots Q (F0 m (pc + 3) ls (v :: rest))) : W p l e R s m args below meth c H locs cells slots Q (F0 m pc ls st0) := cN_pz hC hM hl hy hR hm hn hsz hst hw hdg hf k
theorem cS_r {ws : va_W} {av : List Value} {v : Value} (hC : CX p s m meth c args cc nL ret0 own) (hM : Rd l y b mL ret rm E ws av (some v)) (hl : Cond.methodLink own idx y ∈ tG) (hy : SY y b mL ret n) (hR : RM rm mL R) (hm : rm.cells = 0 ∧ rm.slots = 0) (hK : va_K E.1 vwCl (tyE E) s) (hP : va_P E.1 vwCl ws H) (hn : av.length = n) (hsz : ls.size = nL) (hst : st0 = av.reverse ++ rest) (hw : (rest.map fun v => v.category).sum ≤ 8) (hdg : decode cc pc = .ok (.invokestatic idx, 3)) (hf : cells ≤ R.cells ∧ slots ≤ R.slots)
    (k : W p l e R s m args below meth c H locs cells slots Q (F0 m (pc + 3) ls (v :: rest))) : W p l e R s m args below meth c H locs cells slots Q (F0 m pc ls st0) := cS_rd hC hM hl hy hR hm hK hP hn hsz hst hw hdg hf k
theorem cV_r {ws : va_W} {av : List Value} {v : Value} (hC : CX p s m meth c args cc nL ret0 own) (hM : Rd l y b mL ret rm E ws (.ref o :: av) (some v)) (hl : Cond.methodLink own idx y ∈ tG) (hy : IY y b mL ret n) (hR : RM rm mL R) (hm : rm.cells = 0 ∧ rm.slots = 0) (hK : va_K E.1 vwCl (tyE E) s) (hP : va_P E.1 vwCl ws H) (hrc : ∃ cell : Cell, H[o]? = some cell ∧ cell.vm.isStatics = false ∧ s.vm.findClass y.cls = some cell.cls) (hn : av.length = n) (hsz : ls.size = nL) (hst : st0 = av.reverse ++ .ref o :: rest) (hw : (rest.map fun v => v.category).sum ≤ 8) (hdg : decode cc pc = .ok (.invokevirtual idx, 3)) (hf : cells ≤ R.cells ∧ slots ≤ R.slots)
    (k : W p l e R s m args below meth c H locs cells slots Q (F0 m (pc + 3) ls (v :: rest))) : W p l e R s m args below meth c H locs cells slots Q (F0 m pc ls st0) := cV_rd hC hM hl hy hR hm hK hP hrc hn hsz hst hw hdg hf k
end B5
end
section
abbrev rm_X0_init : Room := { frames := 1, cells := 3, slots := 12, locals := 24 }
abbrev rm_X0_forget : Room := { frames := 0, cells := 0, slots := 0, locals := 0 }
abbrev rm_X0_rowsFor : Room := { frames := 18, cells := 0, slots := 0, locals := 532 }
abbrev rm_X0_sureSecretsFor : Room := { frames := 18, cells := 0, slots := 0, locals := 532 }
abbrev rm_X0_find : Room := { frames := 17, cells := 0, slots := 0, locals := 505 }
abbrev rm_X0_follow_k (k : Nat) : Room := { frames := 2 + k, cells := 0, slots := 0, locals := 55 + k * 30 }
abbrev rm_X0_follow : Room := rm_X0_follow_k 14
abbrev rm_X0_sight : Room := { frames := 1, cells := 0, slots := 0, locals := 22 }
abbrev rm_X1_init : Room := { frames := 1, cells := 0, slots := 0, locals := 24 }
abbrev rm_X1_kind : Room := { frames := 0, cells := 0, slots := 0, locals := 0 }
abbrev rm_X1_learntBy : Room := { frames := 1, cells := 0, slots := 0, locals := 22 }
abbrev rm_X1_telling : Room := { frames := 2, cells := 0, slots := 0, locals := 42 }
abbrev rm_X1_plainTelling : Room := { frames := 1, cells := 0, slots := 0, locals := 21 }
abbrev rm_X1_logged : Room := { frames := 1, cells := 0, slots := 0, locals := 21 }
abbrev rm_X2_chosen : Room := { frames := 1, cells := 0, slots := 0, locals := 21 }
abbrev rm_X2_isJoined : Room := { frames := 2, cells := 0, slots := 0, locals := 46 }
abbrev rm_X2_bridges : Room := { frames := 3, cells := 0, slots := 0, locals := 70 }
abbrev rm_X2_isSun : Room := { frames := 2, cells := 0, slots := 0, locals := 46 }
abbrev rm_X2_reach : Room := { frames := 1, cells := 0, slots := 0, locals := 21 }
abbrev rm_X3_init : Room := { frames := 1, cells := 0, slots := 0, locals := 24 }
abbrev rm_X3_read : Room := { frames := 3, cells := 0, slots := 0, locals := 69 }
abbrev rm_X3_firstBroken : Room := { frames := 2, cells := 0, slots := 0, locals := 43 }
abbrev rm_X3_beginItem : Room := { frames := 1, cells := 0, slots := 0, locals := 21 }
abbrev rm_X3_takesNumber : Room := { frames := 1, cells := 0, slots := 0, locals := 21 }
abbrev rm_X3_firstStranger : Room := { frames := 2, cells := 0, slots := 0, locals := 43 }
abbrev rm_X3_isDigit : Room := { frames := 0, cells := 0, slots := 0, locals := 0 }
abbrev rm_X4_init : Room := { frames := 2, cells := 0, slots := 0, locals := 51 }
abbrev rm_X4_kind : Room := { frames := 0, cells := 0, slots := 0, locals := 0 }
abbrev rm_X4_telling : Room := { frames := 2, cells := 0, slots := 0, locals := 43 }
abbrev rm_X5_first : Room := { frames := 1, cells := 0, slots := 0, locals := 21 }
abbrev rm_X5_persons : Room := { frames := 0, cells := 0, slots := 0, locals := 0 }
abbrev rm_X5_allSecrets : Room := { frames := 0, cells := 0, slots := 0, locals := 0 }
abbrev rm_X5_allNumbers : Room := { frames := 0, cells := 0, slots := 0, locals := 0 }
abbrev rm_X5_partOf : Room := { frames := 0, cells := 0, slots := 0, locals := 0 }
abbrev rm_X5_secretsOf : Room := { frames := 0, cells := 0, slots := 0, locals := 0 }
abbrev rm_X5_numbersOf : Room := { frames := 0, cells := 0, slots := 0, locals := 0 }
abbrev rm_X5_hasToken : Room := { frames := 0, cells := 0, slots := 0, locals := 0 }
abbrev rm_X5_everySecret : Room := { frames := 1, cells := 0, slots := 0, locals := 21 }
abbrev rm_X5_isExpert : Room := { frames := 2, cells := 0, slots := 0, locals := 42 }
abbrev rm_X5_experts : Room := { frames := 3, cells := 0, slots := 0, locals := 64 }
abbrev rm_X5_allAreExperts : Room := { frames := 1, cells := 0, slots := 0, locals := 21 }
abbrev rm_X5_whomMay : Room := { frames := 1, cells := 0, slots := 0, locals := 24 }
abbrev rm_X5_ring : Room := { frames := 1, cells := 0, slots := 0, locals := 22 }
abbrev rm_X5_keyFor : Room := { frames := 1, cells := 0, slots := 0, locals := 21 }
abbrev rm_X6_init : Room := { frames := 2, cells := 8, slots := 49156, locals := 44 }
abbrev rm_X6_all : Room := { frames := 18, cells := 0, slots := 0, locals := 647 }
abbrev rm_X6_good : Room := { frames := 18, cells := 0, slots := 0, locals := 647 }
abbrev rm_X6_fewest : Room := { frames := 18, cells := 0, slots := 0, locals := 647 }
abbrev rm_X6_most : Room := { frames := 18, cells := 0, slots := 0, locals := 647 }
abbrev rm_X6_judge : Room := { frames := 18, cells := 0, slots := 0, locals := 647 }
abbrev rm_X6_bestPair : Room := { frames := 19, cells := 0, slots := 0, locals := 671 }
abbrev rm_X6_areWithin : Room := { frames := 17, cells := 0, slots := 0, locals := 520 }
abbrev rm_X6_count_k (k : Nat) : Room := { frames := 3 + k, cells := 0, slots := 0, locals := 77 + k * 38 }
abbrev rm_X6_count : Room := rm_X6_count_k 14
abbrev rm_X6_keep : Room := { frames := 2, cells := 0, slots := 0, locals := 48 }
abbrev rm_X6_include_k (k : Nat) : Room := { frames := 2 + k, cells := 0, slots := 0, locals := 55 + k * 31 }
abbrev rm_X6_include : Room := rm_X6_include_k 14
abbrev rm_X7_init : Room := { frames := 1, cells := 1, slots := 60, locals := 24 }
abbrev rm_X7_has : Room := { frames := 0, cells := 0, slots := 0, locals := 0 }
abbrev rm_X7_at : Room := { frames := 1, cells := 0, slots := 0, locals := 22 }
abbrev rm_X7_set : Room := { frames := 1, cells := 0, slots := 0, locals := 22 }
abbrev rm_X7_cut : Room := { frames := 0, cells := 0, slots := 0, locals := 0 }
abbrev rm_X8_init : Room := { frames := 1, cells := 1, slots := 8192, locals := 24 }
abbrev rm_X8_makeRoom : Room := { frames := 1, cells := 0, slots := 0, locals := 24 }
abbrev rm_X8_find : Room := { frames := 1, cells := 0, slots := 0, locals := 25 }
abbrev rm_X8_take : Room := { frames := 1, cells := 0, slots := 0, locals := 25 }
abbrev rm_X8_slotFor : Room := { frames := 0, cells := 0, slots := 0, locals := 0 }
abbrev rm_X9_init : Room := { frames := 1, cells := 0, slots := 0, locals := 24 }
abbrev rm_X9_leave : Room := { frames := 0, cells := 0, slots := 0, locals := 0 }
abbrev rm_X10_init : Room := { frames := 3, cells := 0, slots := 0, locals := 78 }
abbrev rm_X10_kind : Room := { frames := 0, cells := 0, slots := 0, locals := 0 }
abbrev rm_X10_telling : Room := { frames := 3, cells := 0, slots := 0, locals := 65 }
abbrev rm_X10_logged : Room := { frames := 1, cells := 0, slots := 0, locals := 21 }
abbrev rm_X11_init : Room := { frames := 3, cells := 18, slots := 49248, locals := 64 }
abbrev rm_X11_net : Room := { frames := 4, cells := 1, slots := 2, locals := 93 }
abbrev rm_X11_ofPerson : Room := { frames := 3, cells := 0, slots := 0, locals := 64 }
abbrev rm_X11_call : Room := { frames := 5, cells := 1, slots := 5, locals := 130 }
abbrev rm_X11_ofCall : Room := { frames := 2, cells := 0, slots := 0, locals := 43 }
abbrev rm_X11_back : Room := { frames := 2, cells := 0, slots := 0, locals := 42 }
abbrev rm_X11_may : Room := { frames := 2, cells := 0, slots := 0, locals := 52 }
abbrev rm_X11_runs : Room := { frames := 19, cells := 0, slots := 0, locals := 671 }
abbrev rm_X11_verdict : Room := { frames := 19, cells := 0, slots := 0, locals := 671 }
abbrev rm_X11_calls : Room := { frames := 19, cells := 0, slots := 0, locals := 671 }
abbrev rm_X11_keeps : Room := { frames := 19, cells := 0, slots := 0, locals := 671 }
abbrev rm_X11_best : Room := { frames := 20, cells := 0, slots := 0, locals := 699 }
abbrev rm_X11_alike : Room := { frames := 19, cells := 0, slots := 0, locals := 557 }
abbrev rm_X11_sure : Room := { frames := 20, cells := 0, slots := 0, locals := 579 }
abbrev rm_X11_known : Room := { frames := 20, cells := 0, slots := 0, locals := 579 }
abbrev rm_X11_end : Room := { frames := 20, cells := 0, slots := 0, locals := 579 }
abbrev rm_X11_joined : Room := { frames := 3, cells := 0, slots := 0, locals := 70 }
abbrev rm_X11_bridge : Room := { frames := 4, cells := 0, slots := 0, locals := 95 }
abbrev rm_X11_sun : Room := { frames := 3, cells := 0, slots := 0, locals := 69 }
abbrev rm_X11_mend : Room := { frames := 20, cells := 0, slots := 0, locals := 698 }
abbrev rm_X11_nets : Room := { frames := 20, cells := 0, slots := 0, locals := 697 }
abbrev rm_X11_within : Room := { frames := 18, cells := 0, slots := 0, locals := 544 }
abbrev rm_X11_sheet : Room := { frames := 2, cells := 2, slots := 62, locals := 46 }
abbrev rm_X11_lose : Room := { frames := 1, cells := 0, slots := 0, locals := 21 }
abbrev rm_X11_put : Room := { frames := 2, cells := 0, slots := 0, locals := 44 }
abbrev rm_X11_cell : Room := { frames := 2, cells := 0, slots := 0, locals := 43 }
abbrev rm_X11_copy : Room := { frames := 1, cells := 0, slots := 0, locals := 60 }
abbrev rm_X11_tell : Room := { frames := 4, cells := 0, slots := 0, locals := 87 }
abbrev rm_X11_log : Room := { frames := 2, cells := 0, slots := 0, locals := 42 }
abbrev rm_X11_as : Room := { frames := 1, cells := 0, slots := 0, locals := 21 }
abbrev rm_X11_trace : Room := { frames := 0, cells := 0, slots := 0, locals := 0 }
abbrev rm_X11_fault : Room := { frames := 0, cells := 0, slots := 0, locals := 0 }
abbrev rm_X11_many : Room := { frames := 4, cells := 0, slots := 0, locals := 88 }
abbrev rm_X11_isSheet : Room := { frames := 0, cells := 0, slots := 0, locals := 0 }
abbrev rm_X11_isLane : Room := { frames := 0, cells := 0, slots := 0, locals := 0 }
abbrev rm_X11_isRule : Room := { frames := 0, cells := 0, slots := 0, locals := 0 }
abbrev rm_X11_isPerson : Room := { frames := 1, cells := 0, slots := 0, locals := 21 }
abbrev rm_X11_isEither : Room := { frames := 0, cells := 0, slots := 0, locals := 0 }
abbrev rm_X11_isPlaceOfNumber : Room := { frames := 0, cells := 0, slots := 0, locals := 0 }
abbrev rm_X11_noPersons : Room := { frames := 1, cells := 0, slots := 0, locals := 21 }
abbrev rm_X11_callAt : Room := { frames := 0, cells := 0, slots := 0, locals := 0 }
abbrev rm_X11_faulted : Room := { frames := 0, cells := 0, slots := 0, locals := 0 }
abbrev rm_X11_begin : Room := { frames := 2, cells := 0, slots := 0, locals := 42 }
abbrev rm_X11_moveTo : Room := { frames := 1, cells := 0, slots := 0, locals := 20 }
abbrev rm_X11_newCall : Room := { frames := 4, cells := 1, slots := 5, locals := 105 }
abbrev rm_X11_surelyHad : Room := { frames := 19, cells := 0, slots := 0, locals := 557 }
abbrev rm_X11_findMending : Room := { frames := 19, cells := 0, slots := 0, locals := 671 }
abbrev rm_X11_countNets : Room := { frames := 19, cells := 0, slots := 0, locals := 671 }
abbrev rm_X11_truth : Room := { frames := 0, cells := 0, slots := 0, locals := 0 }
abbrev rm_X11_contains : Room := { frames := 0, cells := 0, slots := 0, locals := 0 }
abbrev rm_X11_pairOf : Room := { frames := 0, cells := 0, slots := 0, locals := 0 }
abbrev rm_X11_ringerOf : Room := { frames := 0, cells := 0, slots := 0, locals := 0 }
abbrev rm_X11_rungOf : Room := { frames := 0, cells := 0, slots := 0, locals := 0 }
abbrev rm_X11_countOrPick : Room := { frames := 1, cells := 0, slots := 0, locals := 21 }
abbrev rm_X12_init : Room := { frames := 1, cells := 19, slots := 393556, locals := 24 }
abbrev rm_X12_fails : Room := { frames := 0, cells := 0, slots := 0, locals := 0 }
abbrev rm_X12_lost : Room := { frames := 0, cells := 0, slots := 0, locals := 0 }
abbrev rm_X12_isIn : Room := { frames := 0, cells := 0, slots := 0, locals := 0 }
abbrev rm_X12_has : Room := { frames := 0, cells := 0, slots := 0, locals := 0 }
abbrev rm_X12_bitsOf : Room := { frames := 0, cells := 0, slots := 0, locals := 0 }
abbrev rm_X12_isSheet : Room := { frames := 1, cells := 0, slots := 0, locals := 22 }
abbrev rm_X12_isLane : Room := { frames := 1, cells := 0, slots := 0, locals := 22 }
abbrev rm_X12_isPerson : Room := { frames := 0, cells := 0, slots := 0, locals := 0 }
abbrev rm_X12_isRule : Room := { frames := 1, cells := 0, slots := 0, locals := 22 }
abbrev rm_X12_net : Room := { frames := 2, cells := 0, slots := 0, locals := 48 }
abbrev rm_X12_readAll : Room := { frames := 1, cells := 0, slots := 0, locals := 22 }
abbrev rm_X12_of : Room := { frames := 0, cells := 0, slots := 0, locals := 0 }
abbrev rm_X12_numbersOf : Room := { frames := 1, cells := 0, slots := 0, locals := 21 }
abbrev rm_X12_afterCall : Room := { frames := 1, cells := 0, slots := 0, locals := 21 }
abbrev rm_X12_startOf : Room := { frames := 0, cells := 0, slots := 0, locals := 0 }
abbrev rm_X12_areExperts : Room := { frames := 1, cells := 0, slots := 0, locals := 21 }
abbrev rm_X12_stateAt : Room := { frames := 2, cells := 0, slots := 0, locals := 44 }
abbrev rm_X12_tokensAfter : Room := { frames := 0, cells := 0, slots := 0, locals := 0 }
abbrev rm_X12_tokensNow : Room := { frames := 1, cells := 0, slots := 0, locals := 23 }
abbrev rm_X12_ofPerson : Room := { frames := 3, cells := 0, slots := 0, locals := 67 }
abbrev rm_X12_call : Room := { frames := 3, cells := 0, slots := 0, locals := 67 }
abbrev rm_X12_isCall : Room := { frames := 0, cells := 0, slots := 0, locals := 0 }
abbrev rm_X12_learnt : Room := { frames := 3, cells := 0, slots := 0, locals := 67 }
abbrev rm_X12_kindOf : Room := { frames := 4, cells := 0, slots := 0, locals := 89 }
abbrev rm_X12_ofCall : Room := { frames := 5, cells := 0, slots := 0, locals := 112 }
abbrev rm_X12_back : Room := { frames := 0, cells := 0, slots := 0, locals := 0 }
abbrev rm_X12_mayRing : Room := { frames := 2, cells := 0, slots := 0, locals := 45 }
abbrev rm_X12_may : Room := { frames := 3, cells := 0, slots := 0, locals := 70 }
abbrev rm_X12_placeOf : Room := { frames := 1, cells := 0, slots := 0, locals := 21 }
abbrev rm_X12_open : Room := { frames := 2, cells := 0, slots := 0, locals := 47 }
abbrev rm_X12_add : Room := { frames := 0, cells := 0, slots := 0, locals := 0 }
abbrev rm_X12_close : Room := { frames := 2, cells := 0, slots := 0, locals := 44 }
abbrev rm_X12_lay : Room := { frames := 3, cells := 0, slots := 0, locals := 71 }
abbrev rm_X12_lookAt : Room := { frames := 0, cells := 0, slots := 0, locals := 0 }
abbrev rm_X12_layNow : Room := { frames := 4, cells := 0, slots := 0, locals := 103 }
abbrev rm_X12_runs : Room := { frames := 5, cells := 0, slots := 0, locals := 124 }
abbrev rm_X12_verdictAt : Room := { frames := 0, cells := 0, slots := 0, locals := 0 }
abbrev rm_X12_verdict : Room := { frames := 5, cells := 0, slots := 0, locals := 124 }
abbrev rm_X12_calls : Room := { frames := 5, cells := 0, slots := 0, locals := 124 }
abbrev rm_X12_keeps : Room := { frames := 4, cells := 0, slots := 0, locals := 103 }
abbrev rm_X12_best : Room := { frames := 5, cells := 0, slots := 0, locals := 124 }
abbrev rm_X12_layRow : Room := { frames := 2, cells := 0, slots := 0, locals := 45 }
abbrev rm_X12_seesAlike : Room := { frames := 2, cells := 0, slots := 0, locals := 44 }
abbrev rm_X12_layAlike : Room := { frames := 3, cells := 0, slots := 0, locals := 70 }
abbrev rm_X12_alike : Room := { frames := 4, cells := 0, slots := 0, locals := 94 }
abbrev rm_X12_sure : Room := { frames := 4, cells := 0, slots := 0, locals := 94 }
abbrev rm_X12_known : Room := { frames := 4, cells := 0, slots := 0, locals := 94 }
abbrev rm_X12_end : Room := { frames := 4, cells := 0, slots := 0, locals := 94 }
abbrev rm_X12_isJoined : Room := { frames := 1, cells := 0, slots := 0, locals := 21 }
abbrev rm_X12_joined : Room := { frames := 2, cells := 0, slots := 0, locals := 46 }
abbrev rm_X12_layOther : Room := { frames := 0, cells := 0, slots := 0, locals := 0 }
abbrev rm_X12_bridge : Room := { frames := 2, cells := 0, slots := 0, locals := 46 }
abbrev rm_X12_sun : Room := { frames := 1, cells := 0, slots := 0, locals := 21 }
abbrev rm_X12_verdictFrom : Room := { frames := 4, cells := 0, slots := 0, locals := 103 }
abbrev rm_X12_mend : Room := { frames := 5, cells := 0, slots := 0, locals := 126 }
abbrev rm_X12_layNet : Room := { frames := 0, cells := 0, slots := 0, locals := 0 }
abbrev rm_X12_nets : Room := { frames := 5, cells := 0, slots := 0, locals := 126 }
abbrev rm_X12_within : Room := { frames := 3, cells := 0, slots := 0, locals := 70 }
abbrev rm_X12_sheet : Room := { frames := 2, cells := 0, slots := 0, locals := 42 }
abbrev rm_X12_lose : Room := { frames := 2, cells := 0, slots := 0, locals := 42 }
abbrev rm_X12_put : Room := { frames := 2, cells := 0, slots := 0, locals := 42 }
abbrev rm_X12_cell : Room := { frames := 2, cells := 0, slots := 0, locals := 42 }
abbrev rm_X12_copy : Room := { frames := 2, cells := 0, slots := 0, locals := 42 }
abbrev rm_X12_begins : Room := { frames := 0, cells := 0, slots := 0, locals := 0 }
abbrev rm_X12_tell : Room := { frames := 5, cells := 0, slots := 0, locals := 112 }
abbrev rm_X12_log : Room := { frames := 5, cells := 0, slots := 0, locals := 112 }
abbrev rm_X12_as : Room := { frames := 5, cells := 0, slots := 0, locals := 112 }
abbrev rm_X12_trace : Room := { frames := 0, cells := 0, slots := 0, locals := 0 }
abbrev rm_X12_fault : Room := { frames := 0, cells := 0, slots := 0, locals := 0 }
abbrev rm_X12_many : Room := { frames := 3, cells := 0, slots := 0, locals := 67 }
abbrev rm_J6_bitCount_0f7a4 : Room := { frames := 0, cells := 0, slots := 0, locals := 0 }
abbrev rm_J9_max_7cf53 : Room := { frames := 0, cells := 0, slots := 0, locals := 0 }
abbrev rm_J9_min_7cf53 : Room := { frames := 0, cells := 0, slots := 0, locals := 0 }
abbrev rm_J7_fill_d0a16 : Room := { frames := 0, cells := 0, slots := 0, locals := 0 }
end
section
/-! ===== the pure side, 1: bits, persons, calls ===== -/
/-- the nibble of a person in a state -/
def of4 (st p : Nat) : Nat := st >>> (4 * p) &&& 15
theorem of4_lt (st p : Nat) : of4 st p < 16 := Nat.lt_of_le_of_lt Nat.and_le_right (by decide)
theorem tb_1 {x k : Nat} (h : x >>> k &&& 1 = 1) : x.testBit k = true := by
  simp [Nat.testBit, Nat.and_comm, h]
theorem tb_0 {x k : Nat} (h : x >>> k &&& 1 ≠ 1) : x.testBit k = false := by
  have h2 : x >>> k &&& 1 < 2 := Nat.lt_of_le_of_lt Nat.and_le_right (by decide)
  have h3 : x >>> k &&& 1 = 0 := by omega
  simp [Nat.testBit, Nat.and_comm, h3]
theorem tb_v (x k : Nat) : x >>> k &&& 1 = (x.testBit k).toNat := by
  by_cases h : x >>> k &&& 1 = 1
  · rw [h, tb_1 h]; rfl
  · rw [tb_0 h]
    have h2 : x >>> k &&& 1 < 2 := Nat.lt_of_le_of_lt Nat.and_le_right (by decide)
    show _ = 0
    omega
/-- a number between two -/
def isIn (v a b : Int32) : Bool := decide (¬ v < a ∧ ¬ b < v)
theorem isIn_t {v a b : Int32} (h1 : ¬ v < a) (h2 : ¬ b < v) : isIn v a b = true := decide_eq_true ⟨h1, h2⟩
theorem isIn_f1 {v a b : Int32} (h1 : v < a) : isIn v a b = false := decide_eq_false (fun h => h.1 h1)
theorem isIn_f2 {v a b : Int32} (h1 : b < v) : isIn v a b = false := decide_eq_false (fun h => h.2 h1)
theorem isIn_nat {v : Int32} {b : Nat} (hb : b < 2 ^ 31) (h : isIn v (nI 0) (nI b) = true) : ∃ j : Nat, j ≤ b ∧ v = nI j := by
  obtain ⟨h1, h2⟩ := of_decide_eq_true h
  obtain ⟨j, hj, rfl⟩ := nI_of h1
  exact ⟨j, Nat.le_of_not_lt fun h => h2 ((nI_ltI hb hj).mpr h), rfl⟩
theorem nat_isIn {j b : Nat} (hb : b < 2 ^ 31) (h : j ≤ b) : isIn (nI j) (nI 0) (nI b) = true := isIn_t (fun h2 => absurd ((nI_ltI (by omega) (by decide)).mp h2) (by omega)) (fun h2 => absurd ((nI_ltI hb (by omega)).mp h2) (by omega))
/-- the bits of a set among the first k -/
def bitsN (x : Nat) : Nat → Nat
  | 0 => 0
  | k + 1 => bitsN x k + (x >>> k &&& 1)
theorem bitsN_le (x : Nat) : ∀ k, bitsN x k ≤ k
  | 0 => Nat.le_refl 0
  | k + 1 => by
    have h := bitsN_le x k
    have h2 : x >>> k &&& 1 ≤ 1 := Nat.and_le_right
    simp only [bitsN]; omega
/-- a call: both have what one of them had -/
def aft (st p q : Nat) : Nat := (st ||| (of4 st p ||| of4 st q) <<< (4 * p)) ||| (of4 st p ||| of4 st q) <<< (4 * q)
/-- tokens behind a call -/
def tokA (t rule p q : Nat) : Nat := if rule = 2 then (t &&& (1 <<< p ^^^ 4294967295)) ||| 1 <<< q else if rule = 3 then t &&& (1 <<< q ^^^ 4294967295) else t
/-- the numbers that go with a set of secrets, the first k of them -/
def numS (net : Nat → Nat) (S : Nat) : Nat → Nat
  | 0 => 0
  | q + 1 => numS net S q ||| (if S.testBit q then net q ||| 1 <<< q else 0)
abbrev numO (net : Nat → Nat) (st p : Nat) : Nat := numS net (of4 st p) 4
/-- a place among 65536 for a state and tokens -/
def plS (st tok : Nat) : Nat → Nat
  | 0 => tok
  | p + 1 => (plS st tok p <<< 3 ||| (of4 st p &&& (1 <<< p - 1))) ||| of4 st p >>> (p + 1) <<< p
def plc (st tok : Nat) : Nat := plS st tok 4 &&& 65535
theorem plc_lt (st tok : Nat) : plc st tok < 65536 := Nat.lt_of_le_of_lt Nat.and_le_right (by decide)
theorem pow_31 {x k n : Nat} (h : x < 2 ^ n) (hk : n ≤ k) : x < 2 ^ k := Nat.lt_of_lt_of_le h (Nat.pow_le_pow_right (by decide) hk)
theorem or_lt {a b n : Nat} (h1 : a < 2 ^ n) (h2 : b < 2 ^ n) : a ||| b < 2 ^ n := Nat.or_lt_two_pow h1 h2
theorem shl_lt {a n k m : Nat} (h : a < 2 ^ n) (hm : n + k ≤ m) : a <<< k < 2 ^ m := by
  rw [Nat.shiftLeft_eq]
  refine Nat.lt_of_lt_of_le (Nat.mul_lt_mul_of_pos_right h (Nat.two_pow_pos k)) ?_
  rw [← Nat.pow_add]; exact Nat.pow_le_pow_right (by decide) hm
theorem shr_le (a k : Nat) : a >>> k ≤ a := by rw [Nat.shiftRight_eq_div_pow]; exact Nat.div_le_self _ _
end
section
set_option maxHeartbeats 4000000 in
set_option maxRecDepth 100000 in
theorem c_isIn (l : Launch) (v a b : Int32) : Pz l yX12_isIn cX12_isIn 3 (some .boolean) rm_X12_isIn [.int v, .int a, .int b] (some (.int (bI (isIn v a b)))) := by
  refine mk_pz (by decide) (Nat.le_of_ble_eq_true rfl) ?_
  intro p e s m args below meth c hC ls hl
  obtain ⟨hx, hb, hr, hts, hown, hml, hlk, hN⟩ := id hC
  have hl : lv_has ls 3 [(0, .int v), (1, .int a), (2, .int b)] := hl
  refine lv_iload_n hx hb dX12_isIn_0 rfl (lv_at hl 0 rfl) ?_
  refine lv_iload_n hx hb dX12_isIn_1 rfl (lv_at hl 1 rfl) ?_
  refine lv_icmp_lt (tgt := 14) hx hb dX12_isIn_2 (by decide) (fun c_1 => ?_) (fun c_1 => ?_)
  · -- t 14
    refine lv_iconst (v := nI 0) hx hb dX12_isIn_14 (by decide) ?_
    exact rz_bE hC (by first | rw [isIn_t (by assumption) (by assumption)]; rfl | rw [isIn_f1 (by assumption)]; rfl | rw [isIn_f2 (by assumption)]; rfl) dX12_isIn_15
  · -- f 5
    refine lv_iload_n hx hb dX12_isIn_5 rfl (lv_at hl 0 rfl) ?_
    refine lv_iload_n hx hb dX12_isIn_6 rfl (lv_at hl 2 rfl) ?_
    refine lv_icmp_gt (tgt := 14) hx hb dX12_isIn_7 (by decide) (fun c_2 => ?_) (fun c_2 => ?_)
    · -- t 14
      refine lv_iconst (v := nI 0) hx hb dX12_isIn_14 (by decide) ?_
      exact rz_bE hC (by first | rw [isIn_t (by assumption) (by assumption)]; rfl | rw [isIn_f1 (by assumption)]; rfl | rw [isIn_f2 (by assumption)]; rfl) dX12_isIn_15
    · -- f 10
      refine lv_iconst (v := nI 1) hx hb dX12_isIn_10 (by decide) ?_
      refine lv_goto (tgt := 15) hx hb dX12_isIn_11 (by decide) ?_
      exact rz_bE hC (by first | rw [isIn_t (by assumption) (by assumption)]; rfl | rw [isIn_f1 (by assumption)]; rfl | rw [isIn_f2 (by assumption)]; rfl) dX12_isIn_15

set_option maxHeartbeats 4000000 in
set_option maxRecDepth 100000 in
theorem c_m_isSheet (l : Launch) (v : Int32) : Pz l yX12_isSheet cX12_isSheet 1 (some .boolean) rm_X12_isSheet [.int v] (some (.int (bI (isIn v (nI 0) (nI 3))))) := by
  refine mk_pz (by decide) (Nat.le_of_ble_eq_true rfl) ?_
  intro p e s m args below meth c hC ls hl
  obtain ⟨hx, hb, hr, hts, hown, hml, hlk, hN⟩ := id hC
  have hl : lv_has ls 1 [(0, .int v)] := hl
  refine lv_iload_n hx hb dX12_isSheet_0 rfl (lv_at hl 0 rfl) ?_
  refine lv_iconst (v := nI 0) hx hb dX12_isSheet_1 (by decide) ?_
  refine lv_iconst (v := nI 3) hx hb dX12_isSheet_2 (by decide) ?_
  refine cS_p (rest := []) hC (c_isIn l v (nI 0) (nI 3)) kw_837 sy_X12_isIn ⟨Nat.le_of_ble_eq_true rfl, Nat.le_of_ble_eq_true rfl⟩ ⟨rfl, rfl⟩ rfl hl.1 rfl (Nat.le_of_ble_eq_true rfl) dX12_isSheet_3 ⟨Nat.le_of_ble_eq_true rfl, Nat.le_of_ble_eq_true rfl⟩ ?_
  exact rz_bE hC (rfl) dX12_isSheet_6

set_option maxHeartbeats 4000000 in
set_option maxRecDepth 100000 in
theorem c_m_isLane (l : Launch) (v : Int32) : Pz l yX12_isLane cX12_isLane 1 (some .boolean) rm_X12_isLane [.int v] (some (.int (bI (isIn v (nI 0) (nI 2))))) := by
  refine mk_pz (by decide) (Nat.le_of_ble_eq_true rfl) ?_
  intro p e s m args below meth c hC ls hl
  obtain ⟨hx, hb, hr, hts, hown, hml, hlk, hN⟩ := id hC
  have hl : lv_has ls 1 [(0, .int v)] := hl
  refine lv_iload_n hx hb dX12_isLane_0 rfl (lv_at hl 0 rfl) ?_
  refine lv_iconst (v := nI 0) hx hb dX12_isLane_1 (by decide) ?_
  refine lv_iconst (v := nI 2) hx hb dX12_isLane_2 (by decide) ?_
  refine cS_p (rest := []) hC (c_isIn l v (nI 0) (nI 2)) kw_837 sy_X12_isIn ⟨Nat.le_of_ble_eq_true rfl, Nat.le_of_ble_eq_true rfl⟩ ⟨rfl, rfl⟩ rfl hl.1 rfl (Nat.le_of_ble_eq_true rfl) dX12_isLane_3 ⟨Nat.le_of_ble_eq_true rfl, Nat.le_of_ble_eq_true rfl⟩ ?_
  exact rz_bE hC (rfl) dX12_isLane_6

set_option maxHeartbeats 4000000 in
set_option maxRecDepth 100000 in
theorem c_m_isRule (l : Launch) (v : Int32) : Pz l yX12_isRule cX12_isRule 1 (some .boolean) rm_X12_isRule [.int v] (some (.int (bI (isIn v (nI 0) (nI 3))))) := by
  refine mk_pz (by decide) (Nat.le_of_ble_eq_true rfl) ?_
  intro p e s m args below meth c hC ls hl
  obtain ⟨hx, hb, hr, hts, hown, hml, hlk, hN⟩ := id hC
  have hl : lv_has ls 1 [(0, .int v)] := hl
  refine lv_iload_n hx hb dX12_isRule_0 rfl (lv_at hl 0 rfl) ?_
  refine lv_iconst (v := nI 0) hx hb dX12_isRule_1 (by decide) ?_
  refine lv_iconst (v := nI 3) hx hb dX12_isRule_2 (by decide) ?_
  refine cS_p (rest := []) hC (c_isIn l v (nI 0) (nI 3)) kw_837 sy_X12_isIn ⟨Nat.le_of_ble_eq_true rfl, Nat.le_of_ble_eq_true rfl⟩ ⟨rfl, rfl⟩ rfl hl.1 rfl (Nat.le_of_ble_eq_true rfl) dX12_isRule_3 ⟨Nat.le_of_ble_eq_true rfl, Nat.le_of_ble_eq_true rfl⟩ ?_
  exact rz_bE hC (rfl) dX12_isRule_6

set_option maxHeartbeats 4000000 in
set_option maxRecDepth 100000 in
theorem c_m_has (l : Launch) (z k : Nat) (hz1 : z < 2 ^ 31) (hk : k < 32) : Pz l yX12_has cX12_has 2 (some .boolean) rm_X12_has [.int (nI z), .int (nI k)] (some (.int (bI (z.testBit k)))) := by
  refine mk_pz (by decide) (Nat.le_of_ble_eq_true rfl) ?_
  intro p e s m args below meth c hC ls hl
  obtain ⟨hx, hb, hr, hts, hown, hml, hlk, hN⟩ := id hC
  have hl : lv_has ls 2 [(0, .int (nI z)), (1, .int (nI k))] := hl
  refine lv_iload_n hx hb dX12_has_0 rfl (lv_at hl 0 rfl) ?_
  refine lv_iload_n hx hb dX12_has_1 rfl (lv_at hl 1 rfl) ?_
  refine n_ishr hx hb (by omega) (by omega) dX12_has_2 ?_
  have f_1 := shr_le z k
  refine lv_iconst (v := nI 1) hx hb dX12_has_3 (by decide) ?_
  refine n_iand hx hb dX12_has_4 ?_
  have f_2 : (z >>> k) &&& 1 ≤ 1 := Nat.and_le_right
  refine lv_iconst (v := nI 1) hx hb dX12_has_5 (by decide) ?_
  refine n_icmp_ne (tgt := 13) hx hb (by omega) (by omega) dX12_has_6 (by decide) (fun c_3 => ?_) (fun c_3 => ?_)
  · -- t 13
    refine lv_iconst (v := nI 0) hx hb dX12_has_13 (by decide) ?_
    exact rz_bE hC (by first | rw [tb_1 (by assumption)]; rfl | rw [tb_0 (by assumption)]; rfl) dX12_has_14
  · -- f 9
    refine lv_iconst (v := nI 1) hx hb dX12_has_9 (by decide) ?_
    refine lv_goto (tgt := 14) hx hb dX12_has_10 (by decide) ?_
    exact rz_bE hC (by first | rw [tb_1 (by assumption)]; rfl | rw [tb_0 (by assumption)]; rfl) dX12_has_14

set_option maxHeartbeats 4000000 in
set_option maxRecDepth 100000 in
theorem c_of (l : Launch) (st pp : Nat) (h1 : st < 2 ^ 31) (h2 : pp < 4) : Pz l yX12_of cX12_of 2 (some .int) rm_X12_of [.int (nI st), .int (nI pp)] (some (.int (nI (of4 st pp)))) := by
  refine mk_pz (by decide) (Nat.le_of_ble_eq_true rfl) ?_
  intro p e s m args below meth c hC ls hl
  obtain ⟨hx, hb, hr, hts, hown, hml, hlk, hN⟩ := id hC
  have hl : lv_has ls 2 [(0, .int (nI st)), (1, .int (nI pp))] := hl
  refine lv_iload_n hx hb dX12_of_0 rfl (lv_at hl 0 rfl) ?_
  refine lv_iconst (v := nI 4) hx hb dX12_of_1 (by decide) ?_
  refine lv_iload_n hx hb dX12_of_2 rfl (lv_at hl 1 rfl) ?_
  refine n_imul hx hb dX12_of_3 ?_
  refine n_ishr hx hb (by omega) (by omega) dX12_of_4 ?_
  have f_1 := shr_le st (4 * pp)
  refine lv_bipush (v := nI 15) hx hb dX12_of_5 (by decide) ?_
  refine n_iand hx hb dX12_of_7 ?_
  have f_2 : (st >>> (4 * pp)) &&& 15 ≤ 15 := Nat.and_le_right
  exact rz_iE hC (rfl) dX12_of_8

set_option maxHeartbeats 4000000 in
set_option maxRecDepth 100000 in
theorem c_bitsOf (l : Launch) (z : Nat) (h1 : z < 2 ^ 31) : Pz l yX12_bitsOf cX12_bitsOf 3 (some .int) rm_X12_bitsOf [.int (nI z)] (some (.int (nI (bitsN z 16)))) := by
  refine mk_pz (by decide) (Nat.le_of_ble_eq_true rfl) ?_
  intro p e s m args below meth c hC ls hl
  obtain ⟨hx, hb, hr, hts, hown, hml, hlk, hN⟩ := id hC
  have hl : lv_has ls 3 [(0, .int (nI z))] := hl
  refine lv_iconst (v := nI 0) hx hb dX12_bitsOf_0 (by decide) ?_
  refine lv_istore_n (lv' := [(1, .int (nI 0)), (0, .int (nI z))]) hx hb dX12_bitsOf_1 rfl hl (by decide) rfl (fun ls hl => ?_)
  refine lv_iconst (v := nI 0) hx hb dX12_bitsOf_2 (by decide) ?_
  refine lv_istore_n (lv' := [(2, .int (nI 0)), (1, .int (nI 0)), (0, .int (nI z))]) hx hb dX12_bitsOf_3 rfl hl (by decide) rfl (fun ls hl => ?_)
  have lp_1 : ∀ (n_lp_1 : Nat) (k : Nat) (hk : k ≤ 16), 16 - k < n_lp_1 → ∀ (ls : Array Slot), lv_has ls 3 [(0, .int (nI z)), (1, .int (nI (bitsN z k))), (2, .int (nI k))] → W p l e rm_X12_bitsOf s m args below meth c s.heap [] 0 0 (MQ below (pz_Q (some (.int (nI (bitsN z 16))))) args s 0 0 pz_F) (F0 m 4 ls []) := by
    intro n_lp_1
    induction n_lp_1 with
    | zero => intro k hk; intro hm_lp_1; exact absurd hm_lp_1 (Nat.not_lt_zero _)
    | succ n_lp_1 ih_lp_1 =>
      intro k hk hm_lp_1 ls hl
      refine lv_iload_n hx hb dX12_bitsOf_4 rfl (lv_at hl 2 rfl) ?_
      refine lv_bipush (v := nI 16) hx hb dX12_bitsOf_5 (by decide) ?_
      refine n_icmp_ge (tgt := 24) hx hb (by omega) (by omega) dX12_bitsOf_7 (by decide) (fun c_2 => ?_) (fun c_2 => ?_)
      · -- t 24
        refine lv_iload_n hx hb dX12_bitsOf_24 rfl (lv_at hl 1 rfl) ?_
        exact rz_iE hC (by rw [show k = 16 by omega]) dX12_bitsOf_25
      · -- f 10
        refine lv_iload_n hx hb dX12_bitsOf_10 rfl (lv_at hl 1 rfl) ?_
        refine lv_iload_n hx hb dX12_bitsOf_11 rfl (lv_at hl 0 rfl) ?_
        refine lv_iload_n hx hb dX12_bitsOf_12 rfl (lv_at hl 2 rfl) ?_
        refine n_ishr hx hb (by omega) (by omega) dX12_bitsOf_13 ?_
        have f_3 := shr_le z k
        refine lv_iconst (v := nI 1) hx hb dX12_bitsOf_14 (by decide) ?_
        refine n_iand hx hb dX12_bitsOf_15 ?_
        have f_4 : (z >>> k) &&& 1 ≤ 1 := Nat.and_le_right
        refine n_iadd hx hb dX12_bitsOf_16 ?_
        refine lv_istore_n (lv' := [(1, .int (nI ((bitsN z k) + ((z >>> k) &&& 1)))), (0, .int (nI z)), (2, .int (nI k))]) hx hb dX12_bitsOf_17 rfl hl (by decide) rfl (fun ls hl => ?_)
        refine lv_iinc (v := nI (k + 1)) (lv' := [(2, .int (nI (k + 1))), (1, .int (nI ((bitsN z k) + ((z >>> k) &&& 1)))), (0, .int (nI z))]) hx hb dX12_bitsOf_18 hl (k := 2) rfl (ii_1 _) (by decide) rfl (fun ls hl => ?_)
        refine lv_goto (tgt := 4) hx hb dX12_bitsOf_21 (by decide) ?_
        exact ih_lp_1 (k + 1) (by omega) (by omega) ls (lv_sub hl [2, 1, 0] rfl)
  exact lp_1 _ 0 (by omega) (Nat.lt_succ_self _) ls (lv_sub hl [2, 1, 0] rfl)

set_option maxHeartbeats 4000000 in
set_option maxRecDepth 100000 in
theorem c_aft (l : Launch) (st pp qq : Nat) (h1 : st < 2 ^ 31) (h2 : pp < 4) (h3 : qq < 4) : Pz l yX12_afterCall cX12_afterCall 4 (some .int) rm_X12_afterCall [.int (nI st), .int (nI pp), .int (nI qq)] (some (.int (nI (aft st pp qq)))) := by
  refine mk_pz (by decide) (Nat.le_of_ble_eq_true rfl) ?_
  intro p e s m args below meth c hC ls hl
  obtain ⟨hx, hb, hr, hts, hown, hml, hlk, hN⟩ := id hC
  have hl : lv_has ls 4 [(0, .int (nI st)), (1, .int (nI pp)), (2, .int (nI qq))] := hl
  refine lv_iload_n hx hb dX12_afterCall_0 rfl (lv_at hl 0 rfl) ?_
  refine lv_iload_n hx hb dX12_afterCall_1 rfl (lv_at hl 1 rfl) ?_
  refine cS_p (rest := []) hC (c_of l st pp (by omega) (by omega)) kw_874 sy_X12_of ⟨Nat.le_of_ble_eq_true rfl, Nat.le_of_ble_eq_true rfl⟩ ⟨rfl, rfl⟩ rfl hl.1 rfl (Nat.le_of_ble_eq_true rfl) dX12_afterCall_2 ⟨Nat.le_of_ble_eq_true rfl, Nat.le_of_ble_eq_true rfl⟩ ?_
  have f_1 := of4_lt st pp
  refine lv_iload_n hx hb dX12_afterCall_5 rfl (lv_at hl 0 rfl) ?_
  refine lv_iload_n hx hb dX12_afterCall_6 rfl (lv_at hl 2 rfl) ?_
  refine cS_p (rest := [.int (nI (of4 st pp))]) hC (c_of l st qq (by omega) (by omega)) kw_874 sy_X12_of ⟨Nat.le_of_ble_eq_true rfl, Nat.le_of_ble_eq_true rfl⟩ ⟨rfl, rfl⟩ rfl hl.1 rfl (Nat.le_of_ble_eq_true rfl) dX12_afterCall_7 ⟨Nat.le_of_ble_eq_true rfl, Nat.le_of_ble_eq_true rfl⟩ ?_
  have f_2 := of4_lt st qq
  refine n_ior hx hb dX12_afterCall_10 ?_
  refine lv_istore_n (lv' := [(3, .int (nI ((of4 st pp) ||| (of4 st qq)))), (0, .int (nI st)), (1, .int (nI pp)), (2, .int (nI qq))]) hx hb dX12_afterCall_11 rfl hl (by decide) rfl (fun ls hl => ?_)
  refine lv_iload_n hx hb dX12_afterCall_12 rfl (lv_at hl 1 rfl) ?_
  refine lv_iload_n hx hb dX12_afterCall_13 rfl (lv_at hl 0 rfl) ?_
  refine lv_iconst (v := nI 4) hx hb dX12_afterCall_14 (by decide) ?_
  refine lv_iload_n hx hb dX12_afterCall_15 rfl (lv_at hl 2 rfl) ?_
  refine n_imul hx hb dX12_afterCall_16 ?_
  refine n_ishl hx hb (by omega) dX12_afterCall_17 ?_
  refine n_ior hx hb dX12_afterCall_18 ?_
  refine lv_iload_n hx hb dX12_afterCall_19 rfl (lv_at hl 0 rfl) ?_
  refine lv_iconst (v := nI 4) hx hb dX12_afterCall_20 (by decide) ?_
  refine lv_iload_n hx hb dX12_afterCall_21 rfl (lv_at hl 3 rfl) ?_
  refine n_imul hx hb dX12_afterCall_22 ?_
  refine n_ishl hx hb (by omega) dX12_afterCall_23 ?_
  refine n_ior hx hb dX12_afterCall_24 ?_
  exact rz_iE hC (rfl) dX12_afterCall_25

set_option maxHeartbeats 4000000 in
set_option maxRecDepth 100000 in
theorem c_tokA (l : Launch) (t r pp qq : Nat) (h1 : r < 4) (h2 : pp < 4) (h3 : qq < 4) : Pz l yX12_tokensAfter cX12_tokensAfter 4 (some .int) rm_X12_tokensAfter [.int (nI t), .int (nI r), .int (nI pp), .int (nI qq)] (some (.int (nI (tokA t r pp qq)))) := by
  refine mk_pz (by decide) (Nat.le_of_ble_eq_true rfl) ?_
  intro p e s m args below meth c hC ls hl
  obtain ⟨hx, hb, hr, hts, hown, hml, hlk, hN⟩ := id hC
  have hl : lv_has ls 4 [(0, .int (nI t)), (1, .int (nI r)), (2, .int (nI pp)), (3, .int (nI qq))] := hl
  refine lv_iload_n hx hb dX12_tokensAfter_0 rfl (lv_at hl 1 rfl) ?_
  refine lv_iconst (v := nI 2) hx hb dX12_tokensAfter_1 (by decide) ?_
  refine n_icmp_ne (tgt := 19) hx hb (by omega) (by omega) dX12_tokensAfter_2 (by decide) (fun c_1 => ?_) (fun c_1 => ?_)
  · -- t 19
    refine lv_iload_n hx hb dX12_tokensAfter_19 rfl (lv_at hl 1 rfl) ?_
    refine lv_iconst (v := nI 3) hx hb dX12_tokensAfter_20 (by decide) ?_
    refine n_icmp_ne (tgt := 34) hx hb (by omega) (by omega) dX12_tokensAfter_21 (by decide) (fun c_2 => ?_) (fun c_2 => ?_)
    · -- t 34
      refine lv_iload_n hx hb dX12_tokensAfter_34 rfl (lv_at hl 0 rfl) ?_
      exact rz_iE hC (by first | rw [tokA, if_pos (by assumption)] | rw [tokA, if_neg (by assumption), if_pos (by assumption)] | rw [tokA, if_neg (by assumption), if_neg (by assumption)]) dX12_tokensAfter_35
    · -- f 24
      refine lv_iload_n hx hb dX12_tokensAfter_24 rfl (lv_at hl 0 rfl) ?_
      refine lv_iconst (v := nI 1) hx hb dX12_tokensAfter_25 (by decide) ?_
      refine lv_iload_n hx hb dX12_tokensAfter_26 rfl (lv_at hl 3 rfl) ?_
      refine n_ishl hx hb (by omega) dX12_tokensAfter_27 ?_
      refine lv_iconst (v := -1) hx hb dX12_tokensAfter_28 (by decide) ?_
      refine n_ixor (y := 4294967295) hx hb dX12_tokensAfter_29 ?_
      refine n_iand hx hb dX12_tokensAfter_30 ?_
      refine lv_goto (tgt := 35) hx hb dX12_tokensAfter_31 (by decide) ?_
      exact rz_iE hC (by first | rw [tokA, if_pos (by assumption)] | rw [tokA, if_neg (by assumption), if_pos (by assumption)] | rw [tokA, if_neg (by assumption), if_neg (by assumption)]) dX12_tokensAfter_35
  · -- f 5
    refine lv_iload_n hx hb dX12_tokensAfter_5 rfl (lv_at hl 0 rfl) ?_
    refine lv_iconst (v := nI 1) hx hb dX12_tokensAfter_6 (by decide) ?_
    refine lv_iload_n hx hb dX12_tokensAfter_7 rfl (lv_at hl 2 rfl) ?_
    refine n_ishl hx hb (by omega) dX12_tokensAfter_8 ?_
    refine lv_iconst (v := -1) hx hb dX12_tokensAfter_9 (by decide) ?_
    refine n_ixor (y := 4294967295) hx hb dX12_tokensAfter_10 ?_
    refine n_iand hx hb dX12_tokensAfter_11 ?_
    refine lv_iconst (v := nI 1) hx hb dX12_tokensAfter_12 (by decide) ?_
    refine lv_iload_n hx hb dX12_tokensAfter_13 rfl (lv_at hl 3 rfl) ?_
    refine n_ishl hx hb (by omega) dX12_tokensAfter_14 ?_
    refine n_ior hx hb dX12_tokensAfter_15 ?_
    refine lv_goto (tgt := 35) hx hb dX12_tokensAfter_16 (by decide) ?_
    exact rz_iE hC (by first | rw [tokA, if_pos (by assumption)] | rw [tokA, if_neg (by assumption), if_pos (by assumption)] | rw [tokA, if_neg (by assumption), if_neg (by assumption)]) dX12_tokensAfter_35
end
section
/-! ===== the pure side, 2: bounds; who may ring; joined ===== -/
theorem one_shl {k n : Nat} (h : k < n) : 1 <<< k < 2 ^ n := by
  rw [Nat.shiftLeft_eq, Nat.one_mul]; exact Nat.pow_lt_pow_right (by decide) h
theorem aft_lt {st pp qq : Nat} (h : st < 65536) (hp : pp < 4) (hq : qq < 4) : aft st pp qq < 65536 := by
  have h1 : (of4 st pp ||| of4 st qq) < 2 ^ 4 := or_lt (of4_lt _ _) (of4_lt _ _)
  exact or_lt (n := 16) (or_lt h (shl_lt h1 (by omega))) (shl_lt h1 (by omega))
theorem numS_lt {net : Nat → Nat} (hn : ∀ j, j < 4 → net j < 16) (S : Nat) : ∀ k, k ≤ 4 → numS net S k < 16
  | 0, _ => show 0 < 16 by decide
  | k + 1, h => by
    have ih := numS_lt hn S k (by omega)
    simp only [numS]
    refine or_lt (n := 4) ih ?_
    split
    · exact or_lt (n := 4) (hn k (by omega)) (one_shl (by omega))
    · decide
theorem numO_lt {net : Nat → Nat} (hn : ∀ j, j < 4 → net j < 16) (st pp : Nat) : numO net st pp < 16 := numS_lt hn _ 4 (Nat.le_refl 4)
theorem tokA_lt {t r pp qq : Nat} (h : t < 16) (hq : qq < 4) : tokA t r pp qq < 16 := by
  have h0 : ∀ y, t &&& y < 2 ^ 4 := fun y => Nat.lt_of_le_of_lt Nat.and_le_left h
  unfold tokA
  split
  · exact or_lt (n := 4) (h0 _) (one_shl hq)
  · split
    · exact h0 _
    · exact h
/-- who may ring whom by a rule: by whom each has the numbers net, in the state st, with the tokens tok -/
def mayM (net : Nat → Nat) (r st tok pp qq : Nat) : Bool :=
  if pp = qq then false else if (numO net st pp).testBit qq = false then false else
  if r = 1 then !(of4 st pp).testBit qq else
  if of4 st pp = of4 st qq then false else (r == 0 || tok.testBit pp)
/-- the union of what hangs together, as the check finds it: the others q in turn, then p in turn, then again -/
def jQ (net : Nat → Nat) (pp : Nat) (x : Nat) : Nat → Nat
  | 0 => x
  | k + 1 => if (pp ≠ k ∧ (net pp).testBit k = true) ∧ ((jQ net pp x k).testBit pp = true ∨ (jQ net pp x k).testBit k = true) then jQ net pp x k ||| (1 <<< pp ||| 1 <<< k) else jQ net pp x k
def jP (net : Nat → Nat) (n : Nat) (x : Nat) : Nat → Nat
  | 0 => x
  | k + 1 => jQ net k (jP net n x k) n
def jA (net : Nat → Nat) (n : Nat) : Nat → Nat
  | 0 => 1
  | k + 1 => jP net n (jA net n k) n
def joinM (net : Nat → Nat) (n : Nat) : Bool := decide (0 < n) && (jA net n n == 1 <<< n - 1)
theorem jQ_lt {net : Nat → Nat} {pp x : Nat} (hp : pp < 4) (hx : x < 16) : ∀ k, k ≤ 4 → jQ net pp x k < 16
  | 0, _ => hx
  | k + 1, h => by
    have ih := jQ_lt (net := net) hp hx k (by omega)
    simp only [jQ]
    split
    · exact or_lt (n := 4) ih (or_lt (one_shl hp) (one_shl (by omega)))
    · exact ih
theorem jP_lt {net : Nat → Nat} {n x : Nat} (hn : n ≤ 4) (hx : x < 16) : ∀ k, k ≤ 4 → jP net n x k < 16
  | 0, _ => hx
  | k + 1, h => jQ_lt (by omega) (jP_lt hn hx k (by omega)) n hn
theorem jA_lt {net : Nat → Nat} {n : Nat} (hn : n ≤ 4) : ∀ k, jA net n k < 16
  | 0 => show 1 < 16 by decide
  | k + 1 => jP_lt hn (jA_lt hn k) n hn
/-- one int array of four places -/
abbrev aW (E : EE) (a : Nat) (f : Nat → Nat) : va_W := [(a, .inl (E.2 1, 4, .inl (fun j => nI (f j))))]
theorem shl_le4 {n : Nat} (h : n ≤ 4) : 1 <<< n ≤ 16 ∧ 1 ≤ 1 <<< n := by
  rcases (by omega : n = 0 ∨ n = 1 ∨ n = 2 ∨ n = 3 ∨ n = 4) with rfl | rfl | rfl | rfl | rfl <;> decide
end
section
set_option maxHeartbeats 4000000 in
set_option maxRecDepth 100000 in
theorem c_numO (l : Launch) (E : EE) (ar : Nat) (net : Nat → Nat) (st pp : Nat) (h1 : st < 2 ^ 31) (h2 : pp < 4) : Rd l yX12_numbersOf cX12_numbersOf 5 (some .int) rm_X12_numbersOf E (aW E ar net) [.ref ar, .int (nI st), .int (nI pp)] (some (.int (nI (numO net st pp)))) := by
  refine mk_rd (by decide) (Nat.le_of_ble_eq_true rfl) ?_
  intro p e s m args below meth c hC hK hP ls hl
  obtain ⟨hx, hb, hr, hts, hown, hml, hlk, hN⟩ := id hC
  have hl : lv_has ls 5 [(0, .ref ar), (1, .int (nI st)), (2, .int (nI pp))] := hl
  refine lv_iconst (v := nI 0) hx hb dX12_numbersOf_0 (by decide) ?_
  refine lv_istore_n (lv' := [(3, .int (nI 0)), (0, .ref ar), (1, .int (nI st)), (2, .int (nI pp))]) hx hb dX12_numbersOf_1 rfl hl (by decide) rfl (fun ls hl => ?_)
  refine lv_iconst (v := nI 0) hx hb dX12_numbersOf_2 (by decide) ?_
  refine lv_istore (lv' := [(4, .int (nI 0)), (3, .int (nI 0)), (0, .ref ar), (1, .int (nI st)), (2, .int (nI pp))]) hx hb dX12_numbersOf_3 hl (by decide) rfl (fun ls hl => ?_)
  have lp_1 : ∀ (n_lp_1 : Nat) (k : Nat) (hk : k ≤ 4), 4 - k < n_lp_1 → ∀ (ls : Array Slot), lv_has ls 5 [(0, .ref ar), (1, .int (nI st)), (2, .int (nI pp)), (3, .int (nI (numS net (of4 st pp) k))), (4, .int (nI k))] → W p l e rm_X12_numbersOf s m args below meth c s.heap [] 0 0 (MQ below (pz_Q (some (.int (nI (numO net st pp))))) args s 0 0 pz_F) (F0 m 5 ls []) := by
    intro n_lp_1
    induction n_lp_1 with
    | zero => intro k hk; intro hm_lp_1; exact absurd hm_lp_1 (Nat.not_lt_zero _)
    | succ n_lp_1 ih_lp_1 =>
      intro k hk hm_lp_1 ls hl
      refine lv_iload hx hb dX12_numbersOf_5 (lv_at hl 4 rfl) ?_
      refine lv_iconst (v := nI 4) hx hb dX12_numbersOf_7 (by decide) ?_
      refine n_icmp_ge (tgt := 46) hx hb (by omega) (by omega) dX12_numbersOf_8 (by decide) (fun c_2 => ?_) (fun c_2 => ?_)
      · -- t 46
        refine lv_iload_n hx hb dX12_numbersOf_46 rfl (lv_at hl 3 rfl) ?_
        exact rz_iE hC (by rw [show k = 4 by omega]) dX12_numbersOf_47
      · -- f 11
        refine lv_iload_n hx hb dX12_numbersOf_11 rfl (lv_at hl 3 rfl) ?_
        refine lv_iload_n hx hb dX12_numbersOf_12 rfl (lv_at hl 1 rfl) ?_
        refine lv_iload_n hx hb dX12_numbersOf_13 rfl (lv_at hl 2 rfl) ?_
        refine cS_p (rest := [.int (nI (numS net (of4 st pp) k))]) hC (c_of l st pp (by omega) (by omega)) kw_874 sy_X12_of ⟨Nat.le_of_ble_eq_true rfl, Nat.le_of_ble_eq_true rfl⟩ ⟨rfl, rfl⟩ rfl hl.1 rfl (Nat.le_of_ble_eq_true rfl) dX12_numbersOf_14 ⟨Nat.le_of_ble_eq_true rfl, Nat.le_of_ble_eq_true rfl⟩ ?_
        have f_3 := of4_lt st pp
        refine lv_iload hx hb dX12_numbersOf_17 (lv_at hl 4 rfl) ?_
        refine cS_p (rest := [.int (nI (numS net (of4 st pp) k))]) hC (c_m_has l (of4 st pp) k (by omega) (by omega)) kw_851 sy_X12_has ⟨Nat.le_of_ble_eq_true rfl, Nat.le_of_ble_eq_true rfl⟩ ⟨rfl, rfl⟩ rfl hl.1 rfl (Nat.le_of_ble_eq_true rfl) dX12_numbersOf_19 ⟨Nat.le_of_ble_eq_true rfl, Nat.le_of_ble_eq_true rfl⟩ ?_
        refine b_if_eq (tgt := 37) hx hb dX12_numbersOf_22 (by decide) (fun c_4 => ?_) (fun c_4 => ?_)
        · -- t 37
          refine lv_iconst (v := nI 0) hx hb dX12_numbersOf_37 (by decide) ?_
          refine n_ior hx hb dX12_numbersOf_38 ?_
          refine lv_istore_n (lv' := [(3, .int (nI ((numS net (of4 st pp) k) ||| 0))), (0, .ref ar), (1, .int (nI st)), (2, .int (nI pp)), (4, .int (nI k))]) hx hb dX12_numbersOf_39 rfl hl (by decide) rfl (fun ls hl => ?_)
          refine lv_iinc (v := nI (k + 1)) (lv' := [(4, .int (nI (k + 1))), (3, .int (nI ((numS net (of4 st pp) k) ||| 0))), (0, .ref ar), (1, .int (nI st)), (2, .int (nI pp))]) hx hb dX12_numbersOf_40 hl (k := 4) rfl (ii_1 _) (by decide) rfl (fun ls hl => ?_)
          refine lv_goto (tgt := 5) hx hb dX12_numbersOf_43 (by decide) ?_
          exact ih_lp_1 (k + 1) (by omega) (by omega) ls (by have h9 : lv_has ls 5 [(0, .ref ar), (1, .int (nI st)), (2, .int (nI pp)), (3, .int (nI ((numS net (of4 st pp) k) ||| 0))), (4, .int (nI (k + 1)))] := lv_sub hl [2, 3, 4, 1, 0] rfl; simpa [numS, c_2, c_4] using h9)
        · -- f 25
          refine lv_aload_n hx hb dX12_numbersOf_25 rfl (lv_at hl 0 rfl) ?_
          refine lv_iload hx hb dX12_numbersOf_26 (lv_at hl 4 rfl) ?_
          refine n_iald hx hb hK hP 0 rfl (by omega) (by decide) dX12_numbersOf_28 ?_
          refine lv_iconst (v := nI 1) hx hb dX12_numbersOf_29 (by decide) ?_
          refine lv_iload hx hb dX12_numbersOf_30 (lv_at hl 4 rfl) ?_
          refine n_ishl hx hb (by omega) dX12_numbersOf_32 ?_
          refine n_ior hx hb dX12_numbersOf_33 ?_
          refine lv_goto (tgt := 38) hx hb dX12_numbersOf_34 (by decide) ?_
          refine n_ior hx hb dX12_numbersOf_38 ?_
          refine lv_istore_n (lv' := [(3, .int (nI ((numS net (of4 st pp) k) ||| ((net k) ||| (1 <<< k))))), (0, .ref ar), (1, .int (nI st)), (2, .int (nI pp)), (4, .int (nI k))]) hx hb dX12_numbersOf_39 rfl hl (by decide) rfl (fun ls hl => ?_)
          refine lv_iinc (v := nI (k + 1)) (lv' := [(4, .int (nI (k + 1))), (3, .int (nI ((numS net (of4 st pp) k) ||| ((net k) ||| (1 <<< k))))), (0, .ref ar), (1, .int (nI st)), (2, .int (nI pp))]) hx hb dX12_numbersOf_40 hl (k := 4) rfl (ii_1 _) (by decide) rfl (fun ls hl => ?_)
          refine lv_goto (tgt := 5) hx hb dX12_numbersOf_43 (by decide) ?_
          exact ih_lp_1 (k + 1) (by omega) (by omega) ls (by have h9 : lv_has ls 5 [(0, .ref ar), (1, .int (nI st)), (2, .int (nI pp)), (3, .int (nI ((numS net (of4 st pp) k) ||| ((net k) ||| (1 <<< k))))), (4, .int (nI (k + 1)))] := lv_sub hl [2, 3, 4, 1, 0] rfl; simpa [numS, c_2, c_4] using h9)
  exact lp_1 _ 0 (by omega) (Nat.lt_succ_self _) ls (lv_sub hl [2, 3, 4, 1, 0] rfl)

set_option maxHeartbeats 4000000 in
set_option maxRecDepth 100000 in
theorem c_may (l : Launch) (E : EE) (ar : Nat) (net : Nat → Nat) (r st tok pp qq : Nat) (h1 : st < 65536) (h2 : pp < 4) (h3 : qq < 4) (h4 : tok < 16) (h5 : r < 4) (hn : ∀ j, j < 4 → net j < 16) : Rd l yX12_mayRing cX12_mayRing 6 (some .boolean) rm_X12_mayRing E (aW E ar net) [.ref ar, .int (nI r), .int (nI st), .int (nI tok), .int (nI pp), .int (nI qq)] (some (.int (bI (mayM net r st tok pp qq)))) := by
  refine mk_rd (by decide) (Nat.le_of_ble_eq_true rfl) ?_
  intro p e s m args below meth c hC hK hP ls hl
  obtain ⟨hx, hb, hr, hts, hown, hml, hlk, hN⟩ := id hC
  have hl : lv_has ls 6 [(0, .ref ar), (1, .int (nI r)), (2, .int (nI st)), (3, .int (nI tok)), (4, .int (nI pp)), (5, .int (nI qq))] := hl
  refine lv_iload hx hb dX12_mayRing_0 (lv_at hl 4 rfl) ?_
  refine lv_iload hx hb dX12_mayRing_2 (lv_at hl 5 rfl) ?_
  refine n_icmp_eq (tgt := 22) hx hb (by omega) (by omega) dX12_mayRing_4 (by decide) (fun c_1 => ?_) (fun c_1 => ?_)
  · -- t 22
    refine lv_iconst (v := nI 0) hx hb dX12_mayRing_22 (by decide) ?_
    exact rz_bE hC (by rw [show (mayM net r st tok pp qq) = false from by simp [mayM, c_1]]; rfl) dX12_mayRing_23
  · -- f 7
    refine lv_aload_n hx hb dX12_mayRing_7 rfl (lv_at hl 0 rfl) ?_
    refine lv_iload_n hx hb dX12_mayRing_8 rfl (lv_at hl 2 rfl) ?_
    refine lv_iload hx hb dX12_mayRing_9 (lv_at hl 4 rfl) ?_
    refine cS_r (rest := []) hC (c_numO l E ar net st pp (by omega) (by omega)) kw_877 sy_X12_numbersOf ⟨Nat.le_of_ble_eq_true rfl, Nat.le_of_ble_eq_true rfl⟩ ⟨rfl, rfl⟩ hK (hP.sub (ws' := aW E ar net) [0] rfl) rfl hl.1 rfl (Nat.le_of_ble_eq_true rfl) dX12_mayRing_11 ⟨Nat.le_of_ble_eq_true rfl, Nat.le_of_ble_eq_true rfl⟩ ?_
    have f_2 := numO_lt hn st pp
    refine lv_iload hx hb dX12_mayRing_14 (lv_at hl 5 rfl) ?_
    refine cS_p (rest := []) hC (c_m_has l (numO net st pp) qq (by omega) (by omega)) kw_851 sy_X12_has ⟨Nat.le_of_ble_eq_true rfl, Nat.le_of_ble_eq_true rfl⟩ ⟨rfl, rfl⟩ rfl hl.1 rfl (Nat.le_of_ble_eq_true rfl) dX12_mayRing_16 ⟨Nat.le_of_ble_eq_true rfl, Nat.le_of_ble_eq_true rfl⟩ ?_
    refine b_if_ne (tgt := 24) hx hb dX12_mayRing_19 (by decide) (fun c_3 => ?_) (fun c_3 => ?_)
    · -- t 24
      refine lv_iload_n hx hb dX12_mayRing_24 rfl (lv_at hl 1 rfl) ?_
      refine lv_iconst (v := nI 1) hx hb dX12_mayRing_25 (by decide) ?_
      refine n_icmp_ne (tgt := 49) hx hb (by omega) (by omega) dX12_mayRing_26 (by decide) (fun c_4 => ?_) (fun c_4 => ?_)
      · -- t 49
        refine lv_iload_n hx hb dX12_mayRing_49 rfl (lv_at hl 2 rfl) ?_
        refine lv_iload hx hb dX12_mayRing_50 (lv_at hl 4 rfl) ?_
        refine cS_p (rest := []) hC (c_of l st pp (by omega) (by omega)) kw_874 sy_X12_of ⟨Nat.le_of_ble_eq_true rfl, Nat.le_of_ble_eq_true rfl⟩ ⟨rfl, rfl⟩ rfl hl.1 rfl (Nat.le_of_ble_eq_true rfl) dX12_mayRing_52 ⟨Nat.le_of_ble_eq_true rfl, Nat.le_of_ble_eq_true rfl⟩ ?_
        have f_5 := of4_lt st pp
        refine lv_iload_n hx hb dX12_mayRing_55 rfl (lv_at hl 2 rfl) ?_
        refine lv_iload hx hb dX12_mayRing_56 (lv_at hl 5 rfl) ?_
        refine cS_p (rest := [.int (nI (of4 st pp))]) hC (c_of l st qq (by omega) (by omega)) kw_874 sy_X12_of ⟨Nat.le_of_ble_eq_true rfl, Nat.le_of_ble_eq_true rfl⟩ ⟨rfl, rfl⟩ rfl hl.1 rfl (Nat.le_of_ble_eq_true rfl) dX12_mayRing_58 ⟨Nat.le_of_ble_eq_true rfl, Nat.le_of_ble_eq_true rfl⟩ ?_
        have f_6 := of4_lt st qq
        refine n_icmp_eq (tgt := 81) hx hb (by omega) (by omega) dX12_mayRing_61 (by decide) (fun c_7 => ?_) (fun c_7 => ?_)
        · -- t 81
          refine lv_iconst (v := nI 0) hx hb dX12_mayRing_81 (by decide) ?_
          exact rz_bE hC (by rw [show (mayM net r st tok pp qq) = false from by simp [mayM, c_1, c_3, c_4, c_7]]; rfl) dX12_mayRing_82
        · -- f 64
          refine lv_iload_n hx hb dX12_mayRing_64 rfl (lv_at hl 1 rfl) ?_
          refine n_if_eq (tgt := 77) hx hb (by omega) dX12_mayRing_65 (by decide) (fun c_8 => ?_) (fun c_8 => ?_)
          · -- t 77
            refine lv_iconst (v := nI 1) hx hb dX12_mayRing_77 (by decide) ?_
            refine lv_goto (tgt := 82) hx hb dX12_mayRing_78 (by decide) ?_
            exact rz_bE hC (by rw [show (mayM net r st tok pp qq) = true from by simp [mayM, c_1, c_3, c_4, c_7, c_8]]; rfl) dX12_mayRing_82
          · -- f 68
            refine lv_iload_n hx hb dX12_mayRing_68 rfl (lv_at hl 3 rfl) ?_
            refine lv_iload hx hb dX12_mayRing_69 (lv_at hl 4 rfl) ?_
            refine cS_p (rest := []) hC (c_m_has l tok pp (by omega) (by omega)) kw_851 sy_X12_has ⟨Nat.le_of_ble_eq_true rfl, Nat.le_of_ble_eq_true rfl⟩ ⟨rfl, rfl⟩ rfl hl.1 rfl (Nat.le_of_ble_eq_true rfl) dX12_mayRing_71 ⟨Nat.le_of_ble_eq_true rfl, Nat.le_of_ble_eq_true rfl⟩ ?_
            refine b_if_eq (tgt := 81) hx hb dX12_mayRing_74 (by decide) (fun c_9 => ?_) (fun c_9 => ?_)
            · -- t 81
              refine lv_iconst (v := nI 0) hx hb dX12_mayRing_81 (by decide) ?_
              exact rz_bE hC (by rw [show (mayM net r st tok pp qq) = false from by simp [mayM, c_1, c_3, c_4, c_7, c_8, c_9]]; rfl) dX12_mayRing_82
            · -- f 77
              refine lv_iconst (v := nI 1) hx hb dX12_mayRing_77 (by decide) ?_
              refine lv_goto (tgt := 82) hx hb dX12_mayRing_78 (by decide) ?_
              exact rz_bE hC (by rw [show (mayM net r st tok pp qq) = true from by simp [mayM, c_1, c_3, c_4, c_7, c_8, c_9]]; rfl) dX12_mayRing_82
      · -- f 29
        refine lv_iload_n hx hb dX12_mayRing_29 rfl (lv_at hl 2 rfl) ?_
        refine lv_iload hx hb dX12_mayRing_30 (lv_at hl 4 rfl) ?_
        refine cS_p (rest := []) hC (c_of l st pp (by omega) (by omega)) kw_874 sy_X12_of ⟨Nat.le_of_ble_eq_true rfl, Nat.le_of_ble_eq_true rfl⟩ ⟨rfl, rfl⟩ rfl hl.1 rfl (Nat.le_of_ble_eq_true rfl) dX12_mayRing_32 ⟨Nat.le_of_ble_eq_true rfl, Nat.le_of_ble_eq_true rfl⟩ ?_
        have f_10 := of4_lt st pp
        refine lv_iload hx hb dX12_mayRing_35 (lv_at hl 5 rfl) ?_
        refine cS_p (rest := []) hC (c_m_has l (of4 st pp) qq (by omega) (by omega)) kw_851 sy_X12_has ⟨Nat.le_of_ble_eq_true rfl, Nat.le_of_ble_eq_true rfl⟩ ⟨rfl, rfl⟩ rfl hl.1 rfl (Nat.le_of_ble_eq_true rfl) dX12_mayRing_37 ⟨Nat.le_of_ble_eq_true rfl, Nat.le_of_ble_eq_true rfl⟩ ?_
        refine b_if_ne (tgt := 47) hx hb dX12_mayRing_40 (by decide) (fun c_11 => ?_) (fun c_11 => ?_)
        · -- t 47
          refine lv_iconst (v := nI 0) hx hb dX12_mayRing_47 (by decide) ?_
          exact rz_bE hC (by rw [show (mayM net r st tok pp qq) = false from by simp [mayM, c_1, c_3, c_4, c_11]]; rfl) dX12_mayRing_48
        · -- f 43
          refine lv_iconst (v := nI 1) hx hb dX12_mayRing_43 (by decide) ?_
          refine lv_goto (tgt := 48) hx hb dX12_mayRing_44 (by decide) ?_
          exact rz_bE hC (by rw [show (mayM net r st tok pp qq) = true from by simp [mayM, c_1, c_3, c_4, c_11]]; rfl) dX12_mayRing_48
    · -- f 22
      refine lv_iconst (v := nI 0) hx hb dX12_mayRing_22 (by decide) ?_
      exact rz_bE hC (by rw [show (mayM net r st tok pp qq) = false from by simp [mayM, c_1, c_3]]; rfl) dX12_mayRing_23

set_option maxHeartbeats 4000000 in
set_option maxRecDepth 100000 in
theorem c_plc (l : Launch) (st tok : Nat) (h1 : st < 65536) (h2 : tok < 16) : Pz l yX12_placeOf cX12_placeOf 7 (some .int) rm_X12_placeOf [.int (nI st), .int (nI tok)] (some (.int (nI (plc st tok)))) := by
  refine mk_pz (by decide) (Nat.le_of_ble_eq_true rfl) ?_
  intro p e s m args below meth c hC ls hl
  obtain ⟨hx, hb, hr, hts, hown, hml, hlk, hN⟩ := id hC
  have hl : lv_has ls 7 [(0, .int (nI st)), (1, .int (nI tok))] := hl
  refine lv_iload_n hx hb dX12_placeOf_0 rfl (lv_at hl 1 rfl) ?_
  refine lv_istore_n (lv' := [(2, .int (nI tok)), (0, .int (nI st)), (1, .int (nI tok))]) hx hb dX12_placeOf_1 rfl hl (by decide) rfl (fun ls hl => ?_)
  refine lv_iconst (v := nI 0) hx hb dX12_placeOf_2 (by decide) ?_
  refine lv_istore_n (lv' := [(3, .int (nI 0)), (2, .int (nI tok)), (0, .int (nI st)), (1, .int (nI tok))]) hx hb dX12_placeOf_3 rfl hl (by decide) rfl (fun ls hl => ?_)
  have lp_1 : ∀ (n_lp_1 : Nat) (k : Nat) (hk : k ≤ 4), 4 - k < n_lp_1 → ∀ (ls : Array Slot), lv_has ls 7 [(0, .int (nI st)), (1, .int (nI tok)), (2, .int (nI (plS st tok k))), (3, .int (nI k))] → W p l e rm_X12_placeOf s m args below meth c s.heap [] 0 0 (MQ below (pz_Q (some (.int (nI (plc st tok))))) args s 0 0 pz_F) (F0 m 4 ls []) := by
    intro n_lp_1
    induction n_lp_1 with
    | zero => intro k hk; intro hm_lp_1; exact absurd hm_lp_1 (Nat.not_lt_zero _)
    | succ n_lp_1 ih_lp_1 =>
      intro k hk hm_lp_1 ls hl
      have hs0 := shl_le4 hk
      refine lv_iload_n hx hb dX12_placeOf_4 rfl (lv_at hl 3 rfl) ?_
      refine lv_iconst (v := nI 4) hx hb dX12_placeOf_5 (by decide) ?_
      refine n_icmp_ge (tgt := 52) hx hb (by omega) (by omega) dX12_placeOf_6 (by decide) (fun c_2 => ?_) (fun c_2 => ?_)
      · -- t 52
        refine lv_iload_n hx hb dX12_placeOf_52 rfl (lv_at hl 2 rfl) ?_
        refine lv_ldc (v := nI 65535) hx hb hown (hts _ kw_944) dX12_placeOf_53 ?_
        refine n_iand hx hb dX12_placeOf_55 ?_
        have f_3 : (plS st tok k) &&& 65535 ≤ 65535 := Nat.and_le_right
        exact rz_iE hC (by rw [plc, show k = 4 by omega]) dX12_placeOf_56
      · -- f 9
        refine lv_iload_n hx hb dX12_placeOf_9 rfl (lv_at hl 0 rfl) ?_
        refine lv_iload_n hx hb dX12_placeOf_10 rfl (lv_at hl 3 rfl) ?_
        refine cS_p (rest := []) hC (c_of l st k (by omega) (by omega)) kw_874 sy_X12_of ⟨Nat.le_of_ble_eq_true rfl, Nat.le_of_ble_eq_true rfl⟩ ⟨rfl, rfl⟩ rfl hl.1 rfl (Nat.le_of_ble_eq_true rfl) dX12_placeOf_11 ⟨Nat.le_of_ble_eq_true rfl, Nat.le_of_ble_eq_true rfl⟩ ?_
        have f_4 := of4_lt st k
        refine lv_istore (lv' := [(4, .int (nI (of4 st k))), (0, .int (nI st)), (1, .int (nI tok)), (2, .int (nI (plS st tok k))), (3, .int (nI k))]) hx hb dX12_placeOf_14 hl (by decide) rfl (fun ls hl => ?_)
        refine lv_iload hx hb dX12_placeOf_16 (lv_at hl 0 rfl) ?_
        refine lv_iconst (v := nI 1) hx hb dX12_placeOf_18 (by decide) ?_
        refine lv_iload_n hx hb dX12_placeOf_19 rfl (lv_at hl 4 rfl) ?_
        refine n_ishl hx hb (by omega) dX12_placeOf_20 ?_
        refine lv_iconst (v := nI 1) hx hb dX12_placeOf_21 (by decide) ?_
        refine n_isub hx hb (by omega) dX12_placeOf_22 ?_
        refine n_iand hx hb dX12_placeOf_23 ?_
        refine lv_istore (lv' := [(5, .int (nI ((of4 st k) &&& ((1 <<< k) - 1)))), (4, .int (nI (of4 st k))), (0, .int (nI st)), (1, .int (nI tok)), (2, .int (nI (plS st tok k))), (3, .int (nI k))]) hx hb dX12_placeOf_24 hl (by decide) rfl (fun ls hl => ?_)
        refine lv_iload hx hb dX12_placeOf_26 (lv_at hl 1 rfl) ?_
        refine lv_iload_n hx hb dX12_placeOf_28 rfl (lv_at hl 5 rfl) ?_
        refine lv_iconst (v := nI 1) hx hb dX12_placeOf_29 (by decide) ?_
        refine n_iadd hx hb dX12_placeOf_30 ?_
        refine n_ishr hx hb (by omega) (by omega) dX12_placeOf_31 ?_
        have f_5 := shr_le (of4 st k) (k + 1)
        refine lv_iload_n hx hb dX12_placeOf_32 rfl (lv_at hl 5 rfl) ?_
        refine n_ishl hx hb (by omega) dX12_placeOf_33 ?_
        refine lv_istore (lv' := [(6, .int (nI (((of4 st k) >>> (k + 1)) <<< k))), (5, .int (nI ((of4 st k) &&& ((1 <<< k) - 1)))), (4, .int (nI (of4 st k))), (0, .int (nI st)), (1, .int (nI tok)), (2, .int (nI (plS st tok k))), (3, .int (nI k))]) hx hb dX12_placeOf_34 hl (by decide) rfl (fun ls hl => ?_)
        refine lv_iload_n hx hb dX12_placeOf_36 rfl (lv_at hl 5 rfl) ?_
        refine lv_iconst (v := nI 3) hx hb dX12_placeOf_37 (by decide) ?_
        refine n_ishl hx hb (by omega) dX12_placeOf_38 ?_
        refine lv_iload hx hb dX12_placeOf_39 (lv_at hl 1 rfl) ?_
        refine n_ior hx hb dX12_placeOf_41 ?_
        refine lv_iload hx hb dX12_placeOf_42 (lv_at hl 0 rfl) ?_
        refine n_ior hx hb dX12_placeOf_44 ?_
        refine lv_istore_n (lv' := [(2, .int (nI ((((plS st tok k) <<< 3) ||| ((of4 st k) &&& ((1 <<< k) - 1))) ||| (((of4 st k) >>> (k + 1)) <<< k)))), (6, .int (nI (((of4 st k) >>> (k + 1)) <<< k))), (5, .int (nI ((of4 st k) &&& ((1 <<< k) - 1)))), (4, .int (nI (of4 st k))), (0, .int (nI st)), (1, .int (nI tok)), (3, .int (nI k))]) hx hb dX12_placeOf_45 rfl hl (by decide) rfl (fun ls hl => ?_)
        refine lv_iinc (v := nI (k + 1)) (lv' := [(3, .int (nI (k + 1))), (2, .int (nI ((((plS st tok k) <<< 3) ||| ((of4 st k) &&& ((1 <<< k) - 1))) ||| (((of4 st k) >>> (k + 1)) <<< k)))), (6, .int (nI (((of4 st k) >>> (k + 1)) <<< k))), (5, .int (nI ((of4 st k) &&& ((1 <<< k) - 1)))), (4, .int (nI (of4 st k))), (0, .int (nI st)), (1, .int (nI tok))]) hx hb dX12_placeOf_46 hl (k := 6) rfl (ii_1 _) (by decide) rfl (fun ls hl => ?_)
        refine lv_goto (tgt := 4) hx hb dX12_placeOf_49 (by decide) ?_
        exact ih_lp_1 (k + 1) (by omega) (by omega) ls (lv_sub hl [5, 6, 1, 0] rfl)
  exact lp_1 _ 0 (by omega) (Nat.lt_succ_self _) ls (lv_sub hl [2, 3, 1, 0] rfl)

set_option maxHeartbeats 4000000 in
set_option maxRecDepth 100000 in
theorem c_join (l : Launch) (E : EE) (ar : Nat) (net : Nat → Nat) (n : Nat) (hn4 : n ≤ 4) (hn : ∀ j, j < 4 → net j < 16) : Rd l yX12_isJoined cX12_isJoined 6 (some .boolean) rm_X12_isJoined E (aW E ar net) [.ref ar, .int (nI n)] (some (.int (bI (joinM net n)))) := by
  refine mk_rd (by decide) (Nat.le_of_ble_eq_true rfl) ?_
  intro p e s m args below meth c hC hK hP ls hl
  obtain ⟨hx, hb, hr, hts, hown, hml, hlk, hN⟩ := id hC
  have hl : lv_has ls 6 [(0, .ref ar), (1, .int (nI n))] := hl
  refine lv_iconst (v := nI 1) hx hb dX12_isJoined_0 (by decide) ?_
  refine lv_istore_n (lv' := [(2, .int (nI 1)), (0, .ref ar), (1, .int (nI n))]) hx hb dX12_isJoined_1 rfl hl (by decide) rfl (fun ls hl => ?_)
  refine lv_iconst (v := nI 0) hx hb dX12_isJoined_2 (by decide) ?_
  refine lv_istore_n (lv' := [(3, .int (nI 0)), (2, .int (nI 1)), (0, .ref ar), (1, .int (nI n))]) hx hb dX12_isJoined_3 rfl hl (by decide) rfl (fun ls hl => ?_)
  have lp_1 : ∀ (n_lp_1 : Nat) (j1 : Nat) (hk1 : j1 ≤ n), n - j1 < n_lp_1 → ∀ (ls : Array Slot), lv_has ls 6 [(0, .ref ar), (1, .int (nI n)), (2, .int (nI (jA net n j1))), (3, .int (nI j1))] → W p l e rm_X12_isJoined s m args below meth c s.heap [] 0 0 (MQ below (pz_Q (some (.int (bI (joinM net n))))) args s 0 0 pz_F) (F0 m 4 ls []) := by
    intro n_lp_1
    induction n_lp_1 with
    | zero => intro j1 hk1; intro hm_lp_1; exact absurd hm_lp_1 (Nat.not_lt_zero _)
    | succ n_lp_1 ih_lp_1 =>
      intro j1 hk1 hm_lp_1 ls hl
      refine lv_iload_n hx hb dX12_isJoined_4 rfl (lv_at hl 3 rfl) ?_
      refine lv_iload_n hx hb dX12_isJoined_5 rfl (lv_at hl 1 rfl) ?_
      refine n_icmp_ge (tgt := 94) hx hb (by omega) (by omega) dX12_isJoined_6 (by decide) (fun c_2 => ?_) (fun c_2 => ?_)
      · -- t 94
        have hs1 := shl_le4 hn4
        have hj1 := jA_lt (net := net) hn4 n
        rw [show j1 = n by omega] at hl
        refine lv_iload_n hx hb dX12_isJoined_94 rfl (lv_at hl 1 rfl) ?_
        refine n_if_le (tgt := 111) hx hb (by omega) dX12_isJoined_95 (by decide) (fun c_3 => ?_) (fun c_3 => ?_)
        · -- t 111
          refine lv_iconst (v := nI 0) hx hb dX12_isJoined_111 (by decide) ?_
          exact rz_bE hC (by rw [show (joinM net n) = false from by simp [joinM, c_3]]; rfl) dX12_isJoined_112
        · -- f 98
          refine lv_iload_n hx hb dX12_isJoined_98 rfl (lv_at hl 2 rfl) ?_
          refine lv_iconst (v := nI 1) hx hb dX12_isJoined_99 (by decide) ?_
          refine lv_iload_n hx hb dX12_isJoined_100 rfl (lv_at hl 1 rfl) ?_
          refine n_ishl hx hb (by omega) dX12_isJoined_101 ?_
          refine lv_iconst (v := nI 1) hx hb dX12_isJoined_102 (by decide) ?_
          refine n_isub hx hb (by omega) dX12_isJoined_103 ?_
          refine n_icmp_ne (tgt := 111) hx hb (by omega) (by omega) dX12_isJoined_104 (by decide) (fun c_4 => ?_) (fun c_4 => ?_)
          · -- t 111
            refine lv_iconst (v := nI 0) hx hb dX12_isJoined_111 (by decide) ?_
            exact rz_bE hC (by rw [show (joinM net n) = false from by simp [joinM, c_3, c_4]]; rfl) dX12_isJoined_112
          · -- f 107
            refine lv_iconst (v := nI 1) hx hb dX12_isJoined_107 (by decide) ?_
            refine lv_goto (tgt := 112) hx hb dX12_isJoined_108 (by decide) ?_
            exact rz_bE hC (by rw [show (joinM net n) = true from by simp [joinM, c_3, c_4]]; rfl) dX12_isJoined_112
      · -- f 9
        refine lv_iconst (v := nI 0) hx hb dX12_isJoined_9 (by decide) ?_
        refine lv_istore (lv' := [(4, .int (nI 0)), (0, .ref ar), (1, .int (nI n)), (2, .int (nI (jA net n j1))), (3, .int (nI j1))]) hx hb dX12_isJoined_10 hl (by decide) rfl (fun ls hl => ?_)
        have lp_5 : ∀ (n_lp_5 : Nat) (j2 : Nat) (hk2 : j2 ≤ n), n - j2 < n_lp_5 → ∀ (ls : Array Slot), lv_has ls 6 [(0, .ref ar), (1, .int (nI n)), (2, .int (nI (jP net n (jA net n j1) j2))), (3, .int (nI j1)), (4, .int (nI j2))] → W p l e rm_X12_isJoined s m args below meth c s.heap [] 0 0 (MQ below (pz_Q (some (.int (bI (joinM net n))))) args s 0 0 pz_F) (F0 m 12 ls []) := by
          intro n_lp_5
          induction n_lp_5 with
          | zero => intro j2 hk2; intro hm_lp_5; exact absurd hm_lp_5 (Nat.not_lt_zero _)
          | succ n_lp_5 ih_lp_5 =>
            intro j2 hk2 hm_lp_5 ls hl
            refine lv_iload hx hb dX12_isJoined_12 (lv_at hl 4 rfl) ?_
            refine lv_iload_n hx hb dX12_isJoined_14 rfl (lv_at hl 1 rfl) ?_
            refine n_icmp_ge (tgt := 88) hx hb (by omega) (by omega) dX12_isJoined_15 (by decide) (fun c_6 => ?_) (fun c_6 => ?_)
            · -- t 88
              refine lv_iinc (v := nI (j1 + 1)) (lv' := [(3, .int (nI (j1 + 1))), (0, .ref ar), (1, .int (nI n)), (2, .int (nI (jP net n (jA net n j1) j2))), (4, .int (nI j2))]) hx hb dX12_isJoined_88 hl (k := 3) rfl (ii_1 _) (by decide) rfl (fun ls hl => ?_)
              refine lv_goto (tgt := 4) hx hb dX12_isJoined_91 (by decide) ?_
              exact ih_lp_1 (j1 + 1) (by omega) (by omega) ls (by have h9 : lv_has ls 6 [(0, .ref ar), (1, .int (nI n)), (2, .int (nI (jP net n (jA net n j1) j2))), (3, .int (nI (j1 + 1)))] := lv_sub hl [1, 2, 3, 0] rfl; rw [show j2 = n by omega] at h9; exact h9)
            · -- f 18
              refine lv_iconst (v := nI 0) hx hb dX12_isJoined_18 (by decide) ?_
              refine lv_istore (lv' := [(5, .int (nI 0)), (0, .ref ar), (1, .int (nI n)), (2, .int (nI (jP net n (jA net n j1) j2))), (3, .int (nI j1)), (4, .int (nI j2))]) hx hb dX12_isJoined_19 hl (by decide) rfl (fun ls hl => ?_)
              have lp_7 : ∀ (n_lp_7 : Nat) (k : Nat) (hk : k ≤ n), n - k < n_lp_7 → ∀ (ls : Array Slot), lv_has ls 6 [(0, .ref ar), (1, .int (nI n)), (2, .int (nI (jQ net j2 (jP net n (jA net n j1) j2) k))), (3, .int (nI j1)), (4, .int (nI j2)), (5, .int (nI k))] → W p l e rm_X12_isJoined s m args below meth c s.heap [] 0 0 (MQ below (pz_Q (some (.int (bI (joinM net n))))) args s 0 0 pz_F) (F0 m 21 ls []) := by
                intro n_lp_7
                induction n_lp_7 with
                | zero => intro k hk; intro hm_lp_7; exact absurd hm_lp_7 (Nat.not_lt_zero _)
                | succ n_lp_7 ih_lp_7 =>
                  intro k hk hm_lp_7 ls hl
                  have hj0 := jQ_lt (net := net) (pp := j2) (by omega) (jP_lt (net := net) hn4 (jA_lt (net := net) hn4 j1) j2 (by omega)) k (by omega)
                  have hb2 := hn j2 (by omega)
                  refine lv_iload hx hb dX12_isJoined_21 (lv_at hl 5 rfl) ?_
                  refine lv_iload_n hx hb dX12_isJoined_23 rfl (lv_at hl 1 rfl) ?_
                  refine n_icmp_ge (tgt := 82) hx hb (by omega) (by omega) dX12_isJoined_24 (by decide) (fun c_8 => ?_) (fun c_8 => ?_)
                  · -- t 82
                    refine lv_iinc (v := nI (j2 + 1)) (lv' := [(4, .int (nI (j2 + 1))), (0, .ref ar), (1, .int (nI n)), (2, .int (nI (jQ net j2 (jP net n (jA net n j1) j2) k))), (3, .int (nI j1)), (5, .int (nI k))]) hx hb dX12_isJoined_82 hl (k := 4) rfl (ii_1 _) (by decide) rfl (fun ls hl => ?_)
                    refine lv_goto (tgt := 12) hx hb dX12_isJoined_85 (by decide) ?_
                    exact ih_lp_5 (j2 + 1) (by omega) (by omega) ls (by have h9 : lv_has ls 6 [(0, .ref ar), (1, .int (nI n)), (2, .int (nI (jQ net j2 (jP net n (jA net n j1) j2) k))), (3, .int (nI j1)), (4, .int (nI (j2 + 1)))] := lv_sub hl [1, 2, 3, 4, 0] rfl; rw [show k = n by omega] at h9; exact h9)
                  · -- f 27
                    refine lv_iload hx hb dX12_isJoined_27 (lv_at hl 4 rfl) ?_
                    refine lv_iload hx hb dX12_isJoined_29 (lv_at hl 5 rfl) ?_
                    refine n_icmp_eq (tgt := 76) hx hb (by omega) (by omega) dX12_isJoined_31 (by decide) (fun c_9 => ?_) (fun c_9 => ?_)
                    · -- t 76
                      refine lv_iinc (v := nI (k + 1)) (lv' := [(5, .int (nI (k + 1))), (0, .ref ar), (1, .int (nI n)), (2, .int (nI (jQ net j2 (jP net n (jA net n j1) j2) k))), (3, .int (nI j1)), (4, .int (nI j2))]) hx hb dX12_isJoined_76 hl (k := 5) rfl (ii_1 _) (by decide) rfl (fun ls hl => ?_)
                      refine lv_goto (tgt := 21) hx hb dX12_isJoined_79 (by decide) ?_
                      exact ih_lp_7 (k + 1) (by omega) (by omega) ls (by have h9 : lv_has ls 6 [(0, .ref ar), (1, .int (nI n)), (2, .int (nI (jQ net j2 (jP net n (jA net n j1) j2) k))), (3, .int (nI j1)), (4, .int (nI j2)), (5, .int (nI (k + 1)))] := lv_sub hl [1, 2, 3, 4, 5, 0] rfl; simpa [jQ, c_2, c_6, c_8, c_9] using h9)
                    · -- f 34
                      refine lv_aload_n hx hb dX12_isJoined_34 rfl (lv_at hl 0 rfl) ?_
                      refine lv_iload hx hb dX12_isJoined_35 (lv_at hl 4 rfl) ?_
                      refine n_iald hx hb hK hP 0 rfl (by omega) (by decide) dX12_isJoined_37 ?_
                      refine lv_iload hx hb dX12_isJoined_38 (lv_at hl 5 rfl) ?_
                      refine cS_p (rest := []) hC (c_m_has l (net j2) k (by omega) (by omega)) kw_851 sy_X12_has ⟨Nat.le_of_ble_eq_true rfl, Nat.le_of_ble_eq_true rfl⟩ ⟨rfl, rfl⟩ rfl hl.1 rfl (Nat.le_of_ble_eq_true rfl) dX12_isJoined_40 ⟨Nat.le_of_ble_eq_true rfl, Nat.le_of_ble_eq_true rfl⟩ ?_
                      refine b_if_eq (tgt := 76) hx hb dX12_isJoined_43 (by decide) (fun c_10 => ?_) (fun c_10 => ?_)
                      · -- t 76
                        refine lv_iinc (v := nI (k + 1)) (lv' := [(5, .int (nI (k + 1))), (0, .ref ar), (1, .int (nI n)), (2, .int (nI (jQ net j2 (jP net n (jA net n j1) j2) k))), (3, .int (nI j1)), (4, .int (nI j2))]) hx hb dX12_isJoined_76 hl (k := 5) rfl (ii_1 _) (by decide) rfl (fun ls hl => ?_)
                        refine lv_goto (tgt := 21) hx hb dX12_isJoined_79 (by decide) ?_
                        exact ih_lp_7 (k + 1) (by omega) (by omega) ls (by have h9 : lv_has ls 6 [(0, .ref ar), (1, .int (nI n)), (2, .int (nI (jQ net j2 (jP net n (jA net n j1) j2) k))), (3, .int (nI j1)), (4, .int (nI j2)), (5, .int (nI (k + 1)))] := lv_sub hl [1, 2, 3, 4, 5, 0] rfl; simpa [jQ, c_2, c_6, c_8, c_9, c_10] using h9)
                      · -- f 46
                        refine lv_iload_n hx hb dX12_isJoined_46 rfl (lv_at hl 2 rfl) ?_
                        refine lv_iload hx hb dX12_isJoined_47 (lv_at hl 4 rfl) ?_
                        refine cS_p (rest := []) hC (c_m_has l (jQ net j2 (jP net n (jA net n j1) j2) k) j2 (by omega) (by omega)) kw_851 sy_X12_has ⟨Nat.le_of_ble_eq_true rfl, Nat.le_of_ble_eq_true rfl⟩ ⟨rfl, rfl⟩ rfl hl.1 rfl (Nat.le_of_ble_eq_true rfl) dX12_isJoined_49 ⟨Nat.le_of_ble_eq_true rfl, Nat.le_of_ble_eq_true rfl⟩ ?_
                        refine b_if_ne (tgt := 64) hx hb dX12_isJoined_52 (by decide) (fun c_11 => ?_) (fun c_11 => ?_)
                        · -- t 64
                          refine lv_iload_n hx hb dX12_isJoined_64 rfl (lv_at hl 2 rfl) ?_
                          refine lv_iconst (v := nI 1) hx hb dX12_isJoined_65 (by decide) ?_
                          refine lv_iload hx hb dX12_isJoined_66 (lv_at hl 4 rfl) ?_
                          refine n_ishl hx hb (by omega) dX12_isJoined_68 ?_
                          refine lv_iconst (v := nI 1) hx hb dX12_isJoined_69 (by decide) ?_
                          refine lv_iload hx hb dX12_isJoined_70 (lv_at hl 5 rfl) ?_
                          refine n_ishl hx hb (by omega) dX12_isJoined_72 ?_
                          refine n_ior hx hb dX12_isJoined_73 ?_
                          refine n_ior hx hb dX12_isJoined_74 ?_
                          refine lv_istore_n (lv' := [(2, .int (nI ((jQ net j2 (jP net n (jA net n j1) j2) k) ||| ((1 <<< j2) ||| (1 <<< k))))), (0, .ref ar), (1, .int (nI n)), (3, .int (nI j1)), (4, .int (nI j2)), (5, .int (nI k))]) hx hb dX12_isJoined_75 rfl hl (by decide) rfl (fun ls hl => ?_)
                          refine lv_iinc (v := nI (k + 1)) (lv' := [(5, .int (nI (k + 1))), (2, .int (nI ((jQ net j2 (jP net n (jA net n j1) j2) k) ||| ((1 <<< j2) ||| (1 <<< k))))), (0, .ref ar), (1, .int (nI n)), (3, .int (nI j1)), (4, .int (nI j2))]) hx hb dX12_isJoined_76 hl (k := 5) rfl (ii_1 _) (by decide) rfl (fun ls hl => ?_)
                          refine lv_goto (tgt := 21) hx hb dX12_isJoined_79 (by decide) ?_
                          exact ih_lp_7 (k + 1) (by omega) (by omega) ls (by have h9 : lv_has ls 6 [(0, .ref ar), (1, .int (nI n)), (2, .int (nI ((jQ net j2 (jP net n (jA net n j1) j2) k) ||| ((1 <<< j2) ||| (1 <<< k))))), (3, .int (nI j1)), (4, .int (nI j2)), (5, .int (nI (k + 1)))] := lv_sub hl [2, 3, 1, 4, 5, 0] rfl; simpa [jQ, c_2, c_6, c_8, c_9, c_10, c_11] using h9)
                        · -- f 55
                          refine lv_iload_n hx hb dX12_isJoined_55 rfl (lv_at hl 2 rfl) ?_
                          refine lv_iload hx hb dX12_isJoined_56 (lv_at hl 5 rfl) ?_
                          refine cS_p (rest := []) hC (c_m_has l (jQ net j2 (jP net n (jA net n j1) j2) k) k (by omega) (by omega)) kw_851 sy_X12_has ⟨Nat.le_of_ble_eq_true rfl, Nat.le_of_ble_eq_true rfl⟩ ⟨rfl, rfl⟩ rfl hl.1 rfl (Nat.le_of_ble_eq_true rfl) dX12_isJoined_58 ⟨Nat.le_of_ble_eq_true rfl, Nat.le_of_ble_eq_true rfl⟩ ?_
                          refine b_if_eq (tgt := 76) hx hb dX12_isJoined_61 (by decide) (fun c_12 => ?_) (fun c_12 => ?_)
                          · -- t 76
                            refine lv_iinc (v := nI (k + 1)) (lv' := [(5, .int (nI (k + 1))), (0, .ref ar), (1, .int (nI n)), (2, .int (nI (jQ net j2 (jP net n (jA net n j1) j2) k))), (3, .int (nI j1)), (4, .int (nI j2))]) hx hb dX12_isJoined_76 hl (k := 5) rfl (ii_1 _) (by decide) rfl (fun ls hl => ?_)
                            refine lv_goto (tgt := 21) hx hb dX12_isJoined_79 (by decide) ?_
                            exact ih_lp_7 (k + 1) (by omega) (by omega) ls (by have h9 : lv_has ls 6 [(0, .ref ar), (1, .int (nI n)), (2, .int (nI (jQ net j2 (jP net n (jA net n j1) j2) k))), (3, .int (nI j1)), (4, .int (nI j2)), (5, .int (nI (k + 1)))] := lv_sub hl [1, 2, 3, 4, 5, 0] rfl; simpa [jQ, c_2, c_6, c_8, c_9, c_10, c_11, c_12] using h9)
                          · -- f 64
                            refine lv_iload_n hx hb dX12_isJoined_64 rfl (lv_at hl 2 rfl) ?_
                            refine lv_iconst (v := nI 1) hx hb dX12_isJoined_65 (by decide) ?_
                            refine lv_iload hx hb dX12_isJoined_66 (lv_at hl 4 rfl) ?_
                            refine n_ishl hx hb (by omega) dX12_isJoined_68 ?_
                            refine lv_iconst (v := nI 1) hx hb dX12_isJoined_69 (by decide) ?_
                            refine lv_iload hx hb dX12_isJoined_70 (lv_at hl 5 rfl) ?_
                            refine n_ishl hx hb (by omega) dX12_isJoined_72 ?_
                            refine n_ior hx hb dX12_isJoined_73 ?_
                            refine n_ior hx hb dX12_isJoined_74 ?_
                            refine lv_istore_n (lv' := [(2, .int (nI ((jQ net j2 (jP net n (jA net n j1) j2) k) ||| ((1 <<< j2) ||| (1 <<< k))))), (0, .ref ar), (1, .int (nI n)), (3, .int (nI j1)), (4, .int (nI j2)), (5, .int (nI k))]) hx hb dX12_isJoined_75 rfl hl (by decide) rfl (fun ls hl => ?_)
                            refine lv_iinc (v := nI (k + 1)) (lv' := [(5, .int (nI (k + 1))), (2, .int (nI ((jQ net j2 (jP net n (jA net n j1) j2) k) ||| ((1 <<< j2) ||| (1 <<< k))))), (0, .ref ar), (1, .int (nI n)), (3, .int (nI j1)), (4, .int (nI j2))]) hx hb dX12_isJoined_76 hl (k := 5) rfl (ii_1 _) (by decide) rfl (fun ls hl => ?_)
                            refine lv_goto (tgt := 21) hx hb dX12_isJoined_79 (by decide) ?_
                            exact ih_lp_7 (k + 1) (by omega) (by omega) ls (by have h9 : lv_has ls 6 [(0, .ref ar), (1, .int (nI n)), (2, .int (nI ((jQ net j2 (jP net n (jA net n j1) j2) k) ||| ((1 <<< j2) ||| (1 <<< k))))), (3, .int (nI j1)), (4, .int (nI j2)), (5, .int (nI (k + 1)))] := lv_sub hl [2, 3, 1, 4, 5, 0] rfl; simpa [jQ, c_2, c_6, c_8, c_9, c_10, c_11, c_12] using h9)
              exact lp_7 _ 0 (by omega) (Nat.lt_succ_self _) ls (lv_sub hl [1, 2, 3, 4, 5, 0] rfl)
        exact lp_5 _ 0 (by omega) (Nat.lt_succ_self _) ls (lv_sub hl [1, 2, 3, 4, 0] rfl)
  exact lp_1 _ 0 (by omega) (Nat.lt_succ_self _) ls (lv_sub hl [2, 3, 1, 0] rfl)
end
section
/-! ===== the pure side, 3: the check's state ===== -/
def mW (E : EE) (ad : Nat → Nat) (lk : Nat) (tr : Int32) (N : Nat → Nat) (X : Nat → Nat → Int32) (F G : Nat → Nat → Nat) : va_W :=
  [(ad 0, .inr (10, [.int (nI (N 0)), .int tr, .ref (ad 2), .ref (ad 3), .ref (ad 4), .int (nI (N 5)), .ref (ad 6), .ref (ad 7), .int (nI (N 8)), .int (nI (N 9)), .ref (ad 10), .ref (ad 11), .ref (ad 12), .ref (ad 13), .ref (ad 14), .ref (ad 15), .ref (ad 16), .int (nI (N 17)), .ref (ad 18), .ref (ad 19), .ref (ad 20), .ref lk, .int (nI (N 22)), .int (nI (N 23)), .ref (ad 24), .ref (ad 25), .int (nI (N 26)), .int (nI (N 27)), .ref (ad 28), .ref (ad 29)])),
   (ad 2, .inl (E.2 1, 4, .inl (X 2))), (ad 3, .inl (E.2 1, 4, .inl (fun j => nI (F 3 j)))), (ad 4, .inl (E.2 1, 240, .inl (X 4))), (ad 6, .inl (E.2 1, 4, .inl (fun j => nI (F 6 j)))), (ad 7, .inl (E.2 1, 4, .inl (fun j => nI (F 7 j)))),
   (ad 10, .inl (E.2 1, 12, .inl (fun j => nI (F 10 j)))), (ad 11, .inl (E.2 1, 12, .inl (fun j => nI (F 11 j)))), (ad 12, .inl (E.2 1, 65536, .inl (fun j => nI (F 12 j)))), (ad 13, .inl (E.2 2, 65536, .inr (.inl (fun j => lN (G 13 j))))), (ad 14, .inl (E.2 2, 65536, .inr (.inl (fun j => lN (G 14 j))))),
   (ad 15, .inl (E.2 1, 65536, .inl (fun j => nI (F 15 j)))), (ad 16, .inl (E.2 1, 65536, .inl (X 16))), (ad 18, .inl (E.2 1, 16, .inl (fun j => nI (F 18 j)))), (ad 19, .inl (E.2 1, 16, .inl (fun j => nI (F 19 j)))), (ad 20, .inl (E.2 1, 16, .inl (fun j => nI (F 20 j)))),
   (ad 24, .inl (E.2 1, 4, .inl (fun j => nI (F 24 j)))), (ad 25, .inl (E.2 1, 4, .inl (fun j => nI (F 25 j)))), (ad 28, .inl (E.2 1, 4, .inl (fun j => nI (F 28 j)))), (ad 29, .inl (E.2 1, 65536, .inl (fun j => nI (F 29 j))))]
/-- what is always so of the check's state: persons, calls, who rang whom, the net -/
def MOK (N : Nat → Nat) (F : Nat → Nat → Nat) : Prop := N 5 ≤ 4 ∧ N 9 ≤ 12 ∧ (∀ c, F 10 c < 4) ∧ (∀ c, F 11 c < 4) ∧ (∀ j, F 6 j < 16)
def isP (v : Int32) (n : Nat) : Bool := decide (¬ v < 0 ∧ ¬ nI n ≤ v)
theorem isP_t {v : Int32} {n : Nat} (h1 : ¬ v < 0) (h2 : ¬ nI n ≤ v) : isP v n = true := decide_eq_true ⟨h1, h2⟩
theorem isP_f1 {v : Int32} {n : Nat} (h1 : v < 0) : isP v n = false := decide_eq_false (fun h => h.1 h1)
theorem isP_f2 {v : Int32} {n : Nat} (h1 : nI n ≤ v) : isP v n = false := decide_eq_false (fun h => h.2 h1)
theorem isP_nat {v : Int32} {n : Nat} (hn : n < 2 ^ 31) (h : isP v n = true) : ∃ j : Nat, j < n ∧ v = nI j := by
  obtain ⟨h1, h2⟩ := of_decide_eq_true h
  obtain ⟨j, hj, rfl⟩ := nI_of h1
  exact ⟨j, Nat.lt_of_not_le fun h => h2 ((nI_leI hn hj).mpr h), rfl⟩
theorem nat_isP {j n : Nat} (hn : n < 2 ^ 31) (h : j < n) : isP (nI j) n = true := isP_t (nI_pos (by omega)) (fun h2 => absurd ((nI_leI hn (by omega)).mp h2) (by omega))
def startN (n : Nat) : Nat := 33825 &&& (1 <<< (4 * n) - 1)
theorem startN_lt (n : Nat) : startN n < 65536 := Nat.lt_of_le_of_lt Nat.and_le_left (by decide)
theorem shl_16 {n : Nat} (h : n ≤ 4) : 1 ≤ 1 <<< (4 * n) ∧ 1 <<< (4 * n) ≤ 65536 := by
  rcases (by omega : n = 0 ∨ n = 1 ∨ n = 2 ∨ n = 3 ∨ n = 4) with rfl | rfl | rfl | rfl | rfl <;> decide
/-- the state behind k calls -/
def stS (n : Nat) (cP cQ : Nat → Nat) : Nat → Nat
  | 0 => startN n
  | c + 1 => aft (stS n cP cQ c) (cP c) (cQ c)
theorem stS_lt {n : Nat} {cP cQ : Nat → Nat} (h1 : ∀ c, cP c < 4) (h2 : ∀ c, cQ c < 4) : ∀ k, stS n cP cQ k < 65536
  | 0 => startN_lt n
  | k + 1 => aft_lt (stS_lt h1 h2 k) (h1 k) (h2 k)
/-- the tokens of a rule behind k calls -/
def tokS (n r : Nat) (cP cQ : Nat → Nat) : Nat → Nat
  | 0 => 1 <<< n - 1
  | c + 1 => tokA (tokS n r cP cQ c) r (cP c) (cQ c)
theorem tokS_lt {n r : Nat} {cP cQ : Nat → Nat} (hn : n ≤ 4) (h2 : ∀ c, cQ c < 4) : ∀ k, tokS n r cP cQ k < 16
  | 0 => by have := shl_le4 hn; show 1 <<< n - 1 < 16; omega
  | k + 1 => tokA_lt (tokS_lt hn h2 k) (h2 k)
def expM (st n : Nat) : Bool := decide (∀ p, p < n → of4 st p = 1 <<< n - 1)
def lrn (n : Nat) (cP cQ : Nat → Nat) (c who : Nat) : Nat := of4 (stS n cP cQ (c + 1)) who &&& (of4 (stS n cP cQ c) who ^^^ 4294967295)
theorem lrn_lt (n : Nat) (cP cQ : Nat → Nat) (c who : Nat) : lrn n cP cQ c who < 16 := Nat.lt_of_le_of_lt Nat.and_le_left (of4_lt _ _)
def knd (n : Nat) (cP cQ : Nat → Nat) (c : Nat) : Nat :=
  if bitsN (lrn n cP cQ c (cP c)) 16 + bitsN (lrn n cP cQ c (cQ c)) 16 = 0 then 0 else if of4 (stS n cP cQ (c + 1)) (cP c) = 1 <<< n - 1 then 2 else 1
theorem knd_le (n : Nat) (cP cQ : Nat → Nat) (c : Nat) : knd n cP cQ c ≤ 2 := by
  unfold knd; split
  · decide
  · split <;> decide
/-- whom a person may ring, the first k -/
def maySet (net : Nat → Nat) (r st tok pp : Nat) : Nat → Nat
  | 0 => 0
  | q + 1 => maySet net r st tok pp q ||| (if mayM net r st tok pp q then 1 <<< q else 0)
theorem maySet_lt (net : Nat → Nat) (r st tok pp : Nat) : ∀ k, k ≤ 4 → maySet net r st tok pp k < 16
  | 0, _ => show 0 < 16 by decide
  | k + 1, h => by
    have ih := maySet_lt net r st tok pp k (by omega)
    simp only [maySet]
    refine or_lt (n := 4) ih ?_
    split
    · exact one_shl (by omega)
    · decide
/-- how many experts, and numbers, among the first k -/
def expK (st n : Nat) : Nat → Nat
  | 0 => 0
  | p + 1 => expK st n p + (if of4 st p = 1 <<< n - 1 then 1 else 0)
def numK (net : Nat → Nat) : Nat → Nat
  | 0 => 0
  | p + 1 => numK net p + bitsN (net p) 16
end
section
set_option maxHeartbeats 4000000 in
set_option maxRecDepth 100000 in
theorem c_m_isPerson (l : Launch) (E : EE) (ad : Nat → Nat) (lk : Nat) (tr : Int32) (N : Nat → Nat) (X : Nat → Nat → Int32) (F G : Nat → Nat → Nat) (v : Int32) : Rd l yX12_isPerson cX12_isPerson 2 (some .boolean) rm_X12_isPerson E (mW E ad lk tr N X F G) [.ref (ad 0), .int v] (some (.int (bI (isP v (N 5))))) := by
  refine mk_rd (by decide) (Nat.le_of_ble_eq_true rfl) ?_
  intro p e s m args below meth c hC hK hP ls hl
  obtain ⟨hx, hb, hr, hts, hown, hml, hlk, hN⟩ := id hC
  have hl : lv_has ls 2 [(0, .ref (ad 0)), (1, .int v)] := hl
  refine lv_iload_n hx hb dX12_isPerson_0 rfl (lv_at hl 1 rfl) ?_
  refine lv_if_lt (tgt := 16) hx hb dX12_isPerson_1 (by decide) (fun c_1 => ?_) (fun c_1 => ?_)
  · -- t 16
    refine lv_iconst (v := nI 0) hx hb dX12_isPerson_16 (by decide) ?_
    exact rz_bE hC (by first | rw [isP_t (by assumption) (by assumption)]; rfl | rw [isP_f1 (by assumption)]; rfl | rw [isP_f2 (by assumption)]; rfl) dX12_isPerson_17
  · -- f 4
    refine lv_iload_n hx hb dX12_isPerson_4 rfl (lv_at hl 1 rfl) ?_
    refine lv_aload_n hx hb dX12_isPerson_5 rfl (lv_at hl 0 rfl) ?_
    refine va_get (D := E.1) (ci := 10) (v := .int (nI (N 5))) (C := RX12) (T := TX12) (N := 30) hx hb hts iX12 hown hK hP 0 rfl rfl 5 (by decide) (hts _ kw_744) (fun _ h9 => h9) rfl dX12_isPerson_6 ?_
    refine lv_icmp_ge (tgt := 16) hx hb dX12_isPerson_9 (by decide) (fun c_2 => ?_) (fun c_2 => ?_)
    · -- t 16
      refine lv_iconst (v := nI 0) hx hb dX12_isPerson_16 (by decide) ?_
      exact rz_bE hC (by first | rw [isP_t (by assumption) (by assumption)]; rfl | rw [isP_f1 (by assumption)]; rfl | rw [isP_f2 (by assumption)]; rfl) dX12_isPerson_17
    · -- f 12
      refine lv_iconst (v := nI 1) hx hb dX12_isPerson_12 (by decide) ?_
      refine lv_goto (tgt := 17) hx hb dX12_isPerson_13 (by decide) ?_
      exact rz_bE hC (by first | rw [isP_t (by assumption) (by assumption)]; rfl | rw [isP_f1 (by assumption)]; rfl | rw [isP_f2 (by assumption)]; rfl) dX12_isPerson_17

set_option maxHeartbeats 4000000 in
set_option maxRecDepth 100000 in
theorem c_m_isCall (l : Launch) (E : EE) (ad : Nat → Nat) (lk : Nat) (tr : Int32) (N : Nat → Nat) (X : Nat → Nat → Int32) (F G : Nat → Nat → Nat) (v : Int32) : Rd l yX12_isCall cX12_isCall 2 (some .boolean) rm_X12_isCall E (mW E ad lk tr N X F G) [.ref (ad 0), .int v] (some (.int (bI (isP v (N 9))))) := by
  refine mk_rd (by decide) (Nat.le_of_ble_eq_true rfl) ?_
  intro p e s m args below meth c hC hK hP ls hl
  obtain ⟨hx, hb, hr, hts, hown, hml, hlk, hN⟩ := id hC
  have hl : lv_has ls 2 [(0, .ref (ad 0)), (1, .int v)] := hl
  refine lv_iload_n hx hb dX12_isCall_0 rfl (lv_at hl 1 rfl) ?_
  refine lv_if_lt (tgt := 16) hx hb dX12_isCall_1 (by decide) (fun c_1 => ?_) (fun c_1 => ?_)
  · -- t 16
    refine lv_iconst (v := nI 0) hx hb dX12_isCall_16 (by decide) ?_
    exact rz_bE hC (by first | rw [isP_t (by assumption) (by assumption)]; rfl | rw [isP_f1 (by assumption)]; rfl | rw [isP_f2 (by assumption)]; rfl) dX12_isCall_17
  · -- f 4
    refine lv_iload_n hx hb dX12_isCall_4 rfl (lv_at hl 1 rfl) ?_
    refine lv_aload_n hx hb dX12_isCall_5 rfl (lv_at hl 0 rfl) ?_
    refine va_get (D := E.1) (ci := 10) (v := .int (nI (N 9))) (C := RX12) (T := TX12) (N := 30) hx hb hts iX12 hown hK hP 0 rfl rfl 9 (by decide) (hts _ kw_748) (fun _ h9 => h9) rfl dX12_isCall_6 ?_
    refine lv_icmp_ge (tgt := 16) hx hb dX12_isCall_9 (by decide) (fun c_2 => ?_) (fun c_2 => ?_)
    · -- t 16
      refine lv_iconst (v := nI 0) hx hb dX12_isCall_16 (by decide) ?_
      exact rz_bE hC (by first | rw [isP_t (by assumption) (by assumption)]; rfl | rw [isP_f1 (by assumption)]; rfl | rw [isP_f2 (by assumption)]; rfl) dX12_isCall_17
    · -- f 12
      refine lv_iconst (v := nI 1) hx hb dX12_isCall_12 (by decide) ?_
      refine lv_goto (tgt := 17) hx hb dX12_isCall_13 (by decide) ?_
      exact rz_bE hC (by first | rw [isP_t (by assumption) (by assumption)]; rfl | rw [isP_f1 (by assumption)]; rfl | rw [isP_f2 (by assumption)]; rfl) dX12_isCall_17

set_option maxHeartbeats 4000000 in
set_option maxRecDepth 100000 in
theorem c_m_startOf (l : Launch) (E : EE) (ad : Nat → Nat) (lk : Nat) (tr : Int32) (N : Nat → Nat) (X : Nat → Nat → Int32) (F G : Nat → Nat → Nat) (n : Nat) (h4 : n ≤ 4) : Rd l yX12_startOf cX12_startOf 2 (some .int) rm_X12_startOf E (mW E ad lk tr N X F G) [.ref (ad 0), .int (nI n)] (some (.int (nI (startN n)))) := by
  refine mk_rd (by decide) (Nat.le_of_ble_eq_true rfl) ?_
  intro p e s m args below meth c hC hK hP ls hl
  obtain ⟨hx, hb, hr, hts, hown, hml, hlk, hN⟩ := id hC
  have hl : lv_has ls 2 [(0, .ref (ad 0)), (1, .int (nI n))] := hl
  have hs0 := shl_16 h4
  refine lv_ldc (v := nI 33825) hx hb hown (hts _ kw_870) dX12_startOf_0 ?_
  refine lv_iconst (v := nI 1) hx hb dX12_startOf_2 (by decide) ?_
  refine lv_iconst (v := nI 4) hx hb dX12_startOf_3 (by decide) ?_
  refine lv_iload_n hx hb dX12_startOf_4 rfl (lv_at hl 1 rfl) ?_
  refine n_imul hx hb dX12_startOf_5 ?_
  refine n_ishl hx hb (by omega) dX12_startOf_6 ?_
  refine lv_iconst (v := nI 1) hx hb dX12_startOf_7 (by decide) ?_
  refine n_isub hx hb (by omega) dX12_startOf_8 ?_
  refine n_iand hx hb dX12_startOf_9 ?_
  exact rz_iE hC (rfl) dX12_startOf_10

set_option maxHeartbeats 4000000 in
set_option maxRecDepth 100000 in
theorem c_m_areExperts (l : Launch) (E : EE) (ad : Nat → Nat) (lk : Nat) (tr : Int32) (N : Nat → Nat) (X : Nat → Nat → Int32) (F G : Nat → Nat → Nat) (st n : Nat) (h1 : st < 65536) (h4 : n ≤ 4) : Rd l yX12_areExperts cX12_areExperts 4 (some .boolean) rm_X12_areExperts E (mW E ad lk tr N X F G) [.ref (ad 0), .int (nI st), .int (nI n)] (some (.int (bI (expM st n)))) := by
  refine mk_rd (by decide) (Nat.le_of_ble_eq_true rfl) ?_
  intro p e s m args below meth c hC hK hP ls hl
  obtain ⟨hx, hb, hr, hts, hown, hml, hlk, hN⟩ := id hC
  have hl : lv_has ls 4 [(0, .ref (ad 0)), (1, .int (nI st)), (2, .int (nI n))] := hl
  have hs0 := shl_le4 h4
  refine lv_iconst (v := nI 0) hx hb dX12_areExperts_0 (by decide) ?_
  refine lv_istore_n (lv' := [(3, .int (nI 0)), (0, .ref (ad 0)), (1, .int (nI st)), (2, .int (nI n))]) hx hb dX12_areExperts_1 rfl hl (by decide) rfl (fun ls hl => ?_)
  have lp_1 : ∀ (n_lp_1 : Nat) (k : Nat) (hk : k ≤ n) (hk2 : ∀ p, p < k → of4 st p = 1 <<< n - 1), n - k < n_lp_1 → ∀ (ls : Array Slot), lv_has ls 4 [(0, .ref (ad 0)), (1, .int (nI st)), (2, .int (nI n)), (3, .int (nI k))] → W p l e rm_X12_areExperts s m args below meth c s.heap [] 0 0 (MQ below (pz_Q (some (.int (bI (expM st n))))) args s 0 0 pz_F) (F0 m 2 ls []) := by
    intro n_lp_1
    induction n_lp_1 with
    | zero => intro k hk hk2; intro hm_lp_1; exact absurd hm_lp_1 (Nat.not_lt_zero _)
    | succ n_lp_1 ih_lp_1 =>
      intro k hk hk2 hm_lp_1 ls hl
      refine lv_iload_n hx hb dX12_areExperts_2 rfl (lv_at hl 3 rfl) ?_
      refine lv_iload_n hx hb dX12_areExperts_3 rfl (lv_at hl 2 rfl) ?_
      refine n_icmp_ge (tgt := 28) hx hb (by omega) (by omega) dX12_areExperts_4 (by decide) (fun c_2 => ?_) (fun c_2 => ?_)
      · -- t 28
        refine lv_iconst (v := nI 1) hx hb dX12_areExperts_28 (by decide) ?_
        exact rz_bE hC (by rw [expM, decide_eq_true (fun p h => hk2 p (by omega))]; rfl) dX12_areExperts_29
      · -- f 7
        refine lv_iload_n hx hb dX12_areExperts_7 rfl (lv_at hl 1 rfl) ?_
        refine lv_iload_n hx hb dX12_areExperts_8 rfl (lv_at hl 3 rfl) ?_
        refine cS_p (rest := []) hC (c_of l st k (by omega) (by omega)) kw_874 sy_X12_of ⟨Nat.le_of_ble_eq_true rfl, Nat.le_of_ble_eq_true rfl⟩ ⟨rfl, rfl⟩ rfl hl.1 rfl (Nat.le_of_ble_eq_true rfl) dX12_areExperts_9 ⟨Nat.le_of_ble_eq_true rfl, Nat.le_of_ble_eq_true rfl⟩ ?_
        have f_3 := of4_lt st k
        refine lv_iconst (v := nI 1) hx hb dX12_areExperts_12 (by decide) ?_
        refine lv_iload_n hx hb dX12_areExperts_13 rfl (lv_at hl 2 rfl) ?_
        refine n_ishl hx hb (by omega) dX12_areExperts_14 ?_
        refine lv_iconst (v := nI 1) hx hb dX12_areExperts_15 (by decide) ?_
        refine n_isub hx hb (by omega) dX12_areExperts_16 ?_
        refine n_icmp_eq (tgt := 22) hx hb (by omega) (by omega) dX12_areExperts_17 (by decide) (fun c_4 => ?_) (fun c_4 => ?_)
        · -- t 22
          refine lv_iinc (v := nI (k + 1)) (lv' := [(3, .int (nI (k + 1))), (0, .ref (ad 0)), (1, .int (nI st)), (2, .int (nI n))]) hx hb dX12_areExperts_22 hl (k := 3) rfl (ii_1 _) (by decide) rfl (fun ls hl => ?_)
          refine lv_goto (tgt := 2) hx hb dX12_areExperts_25 (by decide) ?_
          exact ih_lp_1 (k + 1) (by omega) (fun p h => (by rcases Nat.lt_or_ge p k with h6 | h6; exact hk2 p h6; rw [show p = k by omega]; assumption)) (by omega) ls (lv_sub hl [1, 2, 3, 0] rfl)
        · -- f 20
          refine lv_iconst (v := nI 0) hx hb dX12_areExperts_20 (by decide) ?_
          exact rz_bE hC (by rw [expM, decide_eq_false (fun h => absurd (h k (by omega)) (by assumption))]; rfl) dX12_areExperts_21
  exact lp_1 _ 0 (by omega) (fun p h => absurd h (by omega)) (Nat.lt_succ_self _) ls (lv_sub hl [1, 2, 3, 0] rfl)

set_option maxHeartbeats 4000000 in
set_option maxRecDepth 100000 in
theorem c_m_stateAt (l : Launch) (E : EE) (ad : Nat → Nat) (lk : Nat) (tr : Int32) (N : Nat → Nat) (X : Nat → Nat → Int32) (F G : Nat → Nat → Nat) (hM : MOK N F) (k0 : Nat) (h1 : k0 ≤ 12) : Rd l yX12_stateAt cX12_stateAt 4 (some .int) rm_X12_stateAt E (mW E ad lk tr N X F G) [.ref (ad 0), .int (nI k0)] (some (.int (nI (stS (N 5) (F 10) (F 11) k0)))) := by
  refine mk_rd (by decide) (Nat.le_of_ble_eq_true rfl) ?_
  intro p e s m args below meth c hC hK hP ls hl
  obtain ⟨hx, hb, hr, hts, hown, hml, hlk, hN⟩ := id hC
  have hl : lv_has ls 4 [(0, .ref (ad 0)), (1, .int (nI k0))] := hl
  obtain ⟨hM5, hM9, hMp, hMq, hMn⟩ := id hM
  have hn : ∀ j, j < 4 → F 6 j < 16 := fun j _ => hMn j
  refine lv_aload_n hx hb dX12_stateAt_0 rfl (lv_at hl 0 rfl) ?_
  refine lv_aload_n hx hb dX12_stateAt_1 rfl (lv_at hl 0 rfl) ?_
  refine va_get (D := E.1) (ci := 10) (v := .int (nI (N 5))) (C := RX12) (T := TX12) (N := 30) hx hb hts iX12 hown hK hP 0 rfl rfl 5 (by decide) (hts _ kw_744) (fun _ h9 => h9) rfl dX12_stateAt_2 ?_
  refine cV_r (rest := []) hC (c_m_startOf l E ad lk tr N X F G (N 5) (by omega)) kw_866 iy_X12_startOf ⟨Nat.le_of_ble_eq_true rfl, Nat.le_of_ble_eq_true rfl⟩ ⟨rfl, rfl⟩ hK hP (va_recv hK hP (ci := 10) (q0 := 0) rfl rfl) rfl hl.1 rfl (Nat.le_of_ble_eq_true rfl) dX12_stateAt_5 ⟨Nat.le_of_ble_eq_true rfl, Nat.le_of_ble_eq_true rfl⟩ ?_
  have f_1 := startN_lt (N 5)
  refine lv_istore_n (lv' := [(2, .int (nI (startN (N 5)))), (0, .ref (ad 0)), (1, .int (nI k0))]) hx hb dX12_stateAt_8 rfl hl (by decide) rfl (fun ls hl => ?_)
  refine lv_iconst (v := nI 0) hx hb dX12_stateAt_9 (by decide) ?_
  refine lv_istore_n (lv' := [(3, .int (nI 0)), (2, .int (nI (startN (N 5)))), (0, .ref (ad 0)), (1, .int (nI k0))]) hx hb dX12_stateAt_10 rfl hl (by decide) rfl (fun ls hl => ?_)
  have lp_2 : ∀ (n_lp_2 : Nat) (k : Nat) (hk : k ≤ k0), k0 - k < n_lp_2 → ∀ (ls : Array Slot), lv_has ls 4 [(0, .ref (ad 0)), (1, .int (nI k0)), (2, .int (nI (stS (N 5) (F 10) (F 11) k))), (3, .int (nI k))] → W p l e rm_X12_stateAt s m args below meth c s.heap [] 0 0 (MQ below (pz_Q (some (.int (nI (stS (N 5) (F 10) (F 11) k0))))) args s 0 0 pz_F) (F0 m 11 ls []) := by
    intro n_lp_2
    induction n_lp_2 with
    | zero => intro k hk; intro hm_lp_2; exact absurd hm_lp_2 (Nat.not_lt_zero _)
    | succ n_lp_2 ih_lp_2 =>
      intro k hk hm_lp_2 ls hl
      have hst := stS_lt (n := N 5) hMp hMq k
      have hcp := hMp k
      have hcq := hMq k
      refine lv_iload_n hx hb dX12_stateAt_11 rfl (lv_at hl 3 rfl) ?_
      refine lv_iload_n hx hb dX12_stateAt_12 rfl (lv_at hl 1 rfl) ?_
      refine n_icmp_ge (tgt := 39) hx hb (by omega) (by omega) dX12_stateAt_13 (by decide) (fun c_3 => ?_) (fun c_3 => ?_)
      · -- t 39
        refine lv_iload_n hx hb dX12_stateAt_39 rfl (lv_at hl 2 rfl) ?_
        exact rz_iE hC (by rw [show k = k0 by omega]) dX12_stateAt_40
      · -- f 16
        refine lv_iload_n hx hb dX12_stateAt_16 rfl (lv_at hl 2 rfl) ?_
        refine lv_aload_n hx hb dX12_stateAt_17 rfl (lv_at hl 0 rfl) ?_
        refine va_get (D := E.1) (ci := 10) (v := .ref (ad 10)) (C := RX12) (T := TX12) (N := 30) hx hb hts iX12 hown hK hP 0 rfl rfl 10 (by decide) (hts _ kw_749) (fun _ h9 => h9) rfl dX12_stateAt_18 ?_
        refine lv_iload_n hx hb dX12_stateAt_21 rfl (lv_at hl 3 rfl) ?_
        refine n_iald hx hb hK hP 6 rfl (by omega) (by decide) dX12_stateAt_22 ?_
        refine lv_aload_n hx hb dX12_stateAt_23 rfl (lv_at hl 0 rfl) ?_
        refine va_get (D := E.1) (ci := 10) (v := .ref (ad 11)) (C := RX12) (T := TX12) (N := 30) hx hb hts iX12 hown hK hP 0 rfl rfl 11 (by decide) (hts _ kw_750) (fun _ h9 => h9) rfl dX12_stateAt_24 ?_
        refine lv_iload_n hx hb dX12_stateAt_27 rfl (lv_at hl 3 rfl) ?_
        refine n_iald hx hb hK hP 7 rfl (by omega) (by decide) dX12_stateAt_28 ?_
        refine cS_p (rest := []) hC (c_aft l (stS (N 5) (F 10) (F 11) k) ((F 10) k) ((F 11) k) (by omega) (by omega) (by omega)) kw_871 sy_X12_afterCall ⟨Nat.le_of_ble_eq_true rfl, Nat.le_of_ble_eq_true rfl⟩ ⟨rfl, rfl⟩ rfl hl.1 rfl (Nat.le_of_ble_eq_true rfl) dX12_stateAt_29 ⟨Nat.le_of_ble_eq_true rfl, Nat.le_of_ble_eq_true rfl⟩ ?_
        have f_4 := aft_lt (st := stS (N 5) (F 10) (F 11) k) (pp := (F 10) k) (qq := (F 11) k) (by omega) (by omega) (by omega)
        refine lv_istore_n (lv' := [(2, .int (nI (aft (stS (N 5) (F 10) (F 11) k) ((F 10) k) ((F 11) k)))), (0, .ref (ad 0)), (1, .int (nI k0)), (3, .int (nI k))]) hx hb dX12_stateAt_32 rfl hl (by decide) rfl (fun ls hl => ?_)
        refine lv_iinc (v := nI (k + 1)) (lv' := [(3, .int (nI (k + 1))), (2, .int (nI (aft (stS (N 5) (F 10) (F 11) k) ((F 10) k) ((F 11) k)))), (0, .ref (ad 0)), (1, .int (nI k0))]) hx hb dX12_stateAt_33 hl (k := 3) rfl (ii_1 _) (by decide) rfl (fun ls hl => ?_)
        refine lv_goto (tgt := 11) hx hb dX12_stateAt_36 (by decide) ?_
        exact ih_lp_2 (k + 1) (by omega) (by omega) ls (lv_sub hl [2, 3, 1, 0] rfl)
  exact lp_2 _ 0 (by omega) (Nat.lt_succ_self _) ls (lv_sub hl [2, 3, 1, 0] rfl)

set_option maxHeartbeats 4000000 in
set_option maxRecDepth 100000 in
theorem c_m_tokensNow (l : Launch) (E : EE) (ad : Nat → Nat) (lk : Nat) (tr : Int32) (N : Nat → Nat) (X : Nat → Nat → Int32) (F G : Nat → Nat → Nat) (hM : MOK N F) (r : Nat) (h1 : r < 4) : Rd l yX12_tokensNow cX12_tokensNow 4 (some .int) rm_X12_tokensNow E (mW E ad lk tr N X F G) [.ref (ad 0), .int (nI r)] (some (.int (nI (tokS (N 5) r (F 10) (F 11) (N 9))))) := by
  refine mk_rd (by decide) (Nat.le_of_ble_eq_true rfl) ?_
  intro p e s m args below meth c hC hK hP ls hl
  obtain ⟨hx, hb, hr, hts, hown, hml, hlk, hN⟩ := id hC
  have hl : lv_has ls 4 [(0, .ref (ad 0)), (1, .int (nI r))] := hl
  obtain ⟨hM5, hM9, hMp, hMq, hMn⟩ := id hM
  have hn : ∀ j, j < 4 → F 6 j < 16 := fun j _ => hMn j
  have hs0 := shl_le4 hM5
  refine lv_iconst (v := nI 1) hx hb dX12_tokensNow_0 (by decide) ?_
  refine lv_aload_n hx hb dX12_tokensNow_1 rfl (lv_at hl 0 rfl) ?_
  refine va_get (D := E.1) (ci := 10) (v := .int (nI (N 5))) (C := RX12) (T := TX12) (N := 30) hx hb hts iX12 hown hK hP 0 rfl rfl 5 (by decide) (hts _ kw_744) (fun _ h9 => h9) rfl dX12_tokensNow_2 ?_
  refine n_ishl hx hb (by omega) dX12_tokensNow_5 ?_
  refine lv_iconst (v := nI 1) hx hb dX12_tokensNow_6 (by decide) ?_
  refine n_isub hx hb (by omega) dX12_tokensNow_7 ?_
  refine lv_istore_n (lv' := [(2, .int (nI ((1 <<< (N 5)) - 1))), (0, .ref (ad 0)), (1, .int (nI r))]) hx hb dX12_tokensNow_8 rfl hl (by decide) rfl (fun ls hl => ?_)
  refine lv_iconst (v := nI 0) hx hb dX12_tokensNow_9 (by decide) ?_
  refine lv_istore_n (lv' := [(3, .int (nI 0)), (2, .int (nI ((1 <<< (N 5)) - 1))), (0, .ref (ad 0)), (1, .int (nI r))]) hx hb dX12_tokensNow_10 rfl hl (by decide) rfl (fun ls hl => ?_)
  have lp_1 : ∀ (n_lp_1 : Nat) (k : Nat) (hk : k ≤ N 9), N 9 - k < n_lp_1 → ∀ (ls : Array Slot), lv_has ls 4 [(0, .ref (ad 0)), (1, .int (nI r)), (2, .int (nI (tokS (N 5) r (F 10) (F 11) k))), (3, .int (nI k))] → W p l e rm_X12_tokensNow s m args below meth c s.heap [] 0 0 (MQ below (pz_Q (some (.int (nI (tokS (N 5) r (F 10) (F 11) (N 9)))))) args s 0 0 pz_F) (F0 m 11 ls []) := by
    intro n_lp_1
    induction n_lp_1 with
    | zero => intro k hk; intro hm_lp_1; exact absurd hm_lp_1 (Nat.not_lt_zero _)
    | succ n_lp_1 ih_lp_1 =>
      intro k hk hm_lp_1 ls hl
      have hst := tokS_lt (n := N 5) (r := r) (cP := F 10) hM5 hMq k
      have hcp := hMp k
      have hcq := hMq k
      refine lv_iload_n hx hb dX12_tokensNow_11 rfl (lv_at hl 3 rfl) ?_
      refine lv_aload_n hx hb dX12_tokensNow_12 rfl (lv_at hl 0 rfl) ?_
      refine va_get (D := E.1) (ci := 10) (v := .int (nI (N 9))) (C := RX12) (T := TX12) (N := 30) hx hb hts iX12 hown hK hP 0 rfl rfl 9 (by decide) (hts _ kw_748) (fun _ h9 => h9) rfl dX12_tokensNow_13 ?_
      refine n_icmp_ge (tgt := 43) hx hb (by omega) (by omega) dX12_tokensNow_16 (by decide) (fun c_2 => ?_) (fun c_2 => ?_)
      · -- t 43
        refine lv_iload_n hx hb dX12_tokensNow_43 rfl (lv_at hl 2 rfl) ?_
        exact rz_iE hC (by rw [show k = N 9 by omega]) dX12_tokensNow_44
      · -- f 19
        refine lv_iload_n hx hb dX12_tokensNow_19 rfl (lv_at hl 2 rfl) ?_
        refine lv_iload_n hx hb dX12_tokensNow_20 rfl (lv_at hl 1 rfl) ?_
        refine lv_aload_n hx hb dX12_tokensNow_21 rfl (lv_at hl 0 rfl) ?_
        refine va_get (D := E.1) (ci := 10) (v := .ref (ad 10)) (C := RX12) (T := TX12) (N := 30) hx hb hts iX12 hown hK hP 0 rfl rfl 10 (by decide) (hts _ kw_749) (fun _ h9 => h9) rfl dX12_tokensNow_22 ?_
        refine lv_iload_n hx hb dX12_tokensNow_25 rfl (lv_at hl 3 rfl) ?_
        refine n_iald hx hb hK hP 6 rfl (by omega) (by decide) dX12_tokensNow_26 ?_
        refine lv_aload_n hx hb dX12_tokensNow_27 rfl (lv_at hl 0 rfl) ?_
        refine va_get (D := E.1) (ci := 10) (v := .ref (ad 11)) (C := RX12) (T := TX12) (N := 30) hx hb hts iX12 hown hK hP 0 rfl rfl 11 (by decide) (hts _ kw_750) (fun _ h9 => h9) rfl dX12_tokensNow_28 ?_
        refine lv_iload_n hx hb dX12_tokensNow_31 rfl (lv_at hl 3 rfl) ?_
        refine n_iald hx hb hK hP 7 rfl (by omega) (by decide) dX12_tokensNow_32 ?_
        refine cS_p (rest := []) hC (c_tokA l (tokS (N 5) r (F 10) (F 11) k) r ((F 10) k) ((F 11) k) (by omega) (by omega) (by omega)) kw_884 sy_X12_tokensAfter ⟨Nat.le_of_ble_eq_true rfl, Nat.le_of_ble_eq_true rfl⟩ ⟨rfl, rfl⟩ rfl hl.1 rfl (Nat.le_of_ble_eq_true rfl) dX12_tokensNow_33 ⟨Nat.le_of_ble_eq_true rfl, Nat.le_of_ble_eq_true rfl⟩ ?_
        have f_3 := tokA_lt (t := tokS (N 5) r (F 10) (F 11) k) (r := r) (pp := (F 10) k) (qq := (F 11) k) (by omega) (by omega)
        refine lv_istore_n (lv' := [(2, .int (nI (tokA (tokS (N 5) r (F 10) (F 11) k) r ((F 10) k) ((F 11) k)))), (0, .ref (ad 0)), (1, .int (nI r)), (3, .int (nI k))]) hx hb dX12_tokensNow_36 rfl hl (by decide) rfl (fun ls hl => ?_)
        refine lv_iinc (v := nI (k + 1)) (lv' := [(3, .int (nI (k + 1))), (2, .int (nI (tokA (tokS (N 5) r (F 10) (F 11) k) r ((F 10) k) ((F 11) k)))), (0, .ref (ad 0)), (1, .int (nI r))]) hx hb dX12_tokensNow_37 hl (k := 3) rfl (ii_1 _) (by decide) rfl (fun ls hl => ?_)
        refine lv_goto (tgt := 11) hx hb dX12_tokensNow_40 (by decide) ?_
        exact ih_lp_1 (k + 1) (by omega) (by omega) ls (lv_sub hl [2, 3, 1, 0] rfl)
  exact lp_1 _ 0 (by omega) (Nat.lt_succ_self _) ls (lv_sub hl [2, 3, 1, 0] rfl)

set_option maxHeartbeats 4000000 in
set_option maxRecDepth 100000 in
theorem c_m_learnt (l : Launch) (E : EE) (ad : Nat → Nat) (lk : Nat) (tr : Int32) (N : Nat → Nat) (X : Nat → Nat → Int32) (F G : Nat → Nat → Nat) (hM : MOK N F) (cc1 w : Nat) (h1 : cc1 < 12) (h2 : w < 4) : Rd l yX12_learnt cX12_learnt 3 (some .int) rm_X12_learnt E (mW E ad lk tr N X F G) [.ref (ad 0), .int (nI cc1), .int (nI w)] (some (.int (nI (lrn (N 5) (F 10) (F 11) cc1 w)))) := by
  refine mk_rd (by decide) (Nat.le_of_ble_eq_true rfl) ?_
  intro p e s m args below meth c hC hK hP ls hl
  obtain ⟨hx, hb, hr, hts, hown, hml, hlk, hN⟩ := id hC
  have hl : lv_has ls 3 [(0, .ref (ad 0)), (1, .int (nI cc1)), (2, .int (nI w))] := hl
  obtain ⟨hM5, hM9, hMp, hMq, hMn⟩ := id hM
  have hn : ∀ j, j < 4 → F 6 j < 16 := fun j _ => hMn j
  refine lv_aload_n hx hb dX12_learnt_0 rfl (lv_at hl 0 rfl) ?_
  refine lv_iload_n hx hb dX12_learnt_1 rfl (lv_at hl 1 rfl) ?_
  refine lv_iconst (v := nI 1) hx hb dX12_learnt_2 (by decide) ?_
  refine n_iadd hx hb dX12_learnt_3 ?_
  refine cV_r (rest := []) hC (c_m_stateAt l E ad lk tr N X F G hM (cc1 + 1) (by omega)) kw_862 iy_X12_stateAt ⟨Nat.le_of_ble_eq_true rfl, Nat.le_of_ble_eq_true rfl⟩ ⟨rfl, rfl⟩ hK hP (va_recv hK hP (ci := 10) (q0 := 0) rfl rfl) rfl hl.1 rfl (Nat.le_of_ble_eq_true rfl) dX12_learnt_4 ⟨Nat.le_of_ble_eq_true rfl, Nat.le_of_ble_eq_true rfl⟩ ?_
  have f_1 := stS_lt (n := N 5) hMp hMq (cc1 + 1)
  refine lv_iload_n hx hb dX12_learnt_7 rfl (lv_at hl 2 rfl) ?_
  refine cS_p (rest := []) hC (c_of l (stS (N 5) (F 10) (F 11) (cc1 + 1)) w (by omega) (by omega)) kw_874 sy_X12_of ⟨Nat.le_of_ble_eq_true rfl, Nat.le_of_ble_eq_true rfl⟩ ⟨rfl, rfl⟩ rfl hl.1 rfl (Nat.le_of_ble_eq_true rfl) dX12_learnt_8 ⟨Nat.le_of_ble_eq_true rfl, Nat.le_of_ble_eq_true rfl⟩ ?_
  have f_2 := of4_lt (stS (N 5) (F 10) (F 11) (cc1 + 1)) w
  refine lv_aload_n hx hb dX12_learnt_11 rfl (lv_at hl 0 rfl) ?_
  refine lv_iload_n hx hb dX12_learnt_12 rfl (lv_at hl 1 rfl) ?_
  refine cV_r (rest := [.int (nI (of4 (stS (N 5) (F 10) (F 11) (cc1 + 1)) w))]) hC (c_m_stateAt l E ad lk tr N X F G hM cc1 (by omega)) kw_862 iy_X12_stateAt ⟨Nat.le_of_ble_eq_true rfl, Nat.le_of_ble_eq_true rfl⟩ ⟨rfl, rfl⟩ hK hP (va_recv hK hP (ci := 10) (q0 := 0) rfl rfl) rfl hl.1 rfl (Nat.le_of_ble_eq_true rfl) dX12_learnt_13 ⟨Nat.le_of_ble_eq_true rfl, Nat.le_of_ble_eq_true rfl⟩ ?_
  have f_3 := stS_lt (n := N 5) hMp hMq cc1
  refine lv_iload_n hx hb dX12_learnt_16 rfl (lv_at hl 2 rfl) ?_
  refine cS_p (rest := [.int (nI (of4 (stS (N 5) (F 10) (F 11) (cc1 + 1)) w))]) hC (c_of l (stS (N 5) (F 10) (F 11) cc1) w (by omega) (by omega)) kw_874 sy_X12_of ⟨Nat.le_of_ble_eq_true rfl, Nat.le_of_ble_eq_true rfl⟩ ⟨rfl, rfl⟩ rfl hl.1 rfl (Nat.le_of_ble_eq_true rfl) dX12_learnt_17 ⟨Nat.le_of_ble_eq_true rfl, Nat.le_of_ble_eq_true rfl⟩ ?_
  have f_4 := of4_lt (stS (N 5) (F 10) (F 11) cc1) w
  refine lv_iconst (v := -1) hx hb dX12_learnt_20 (by decide) ?_
  refine n_ixor (y := 4294967295) hx hb dX12_learnt_21 ?_
  refine n_iand hx hb dX12_learnt_22 ?_
  exact rz_iE hC (rfl) dX12_learnt_23

set_option maxHeartbeats 4000000 in
set_option maxRecDepth 100000 in
theorem c_m_kindOf (l : Launch) (E : EE) (ad : Nat → Nat) (lk : Nat) (tr : Int32) (N : Nat → Nat) (X : Nat → Nat → Int32) (F G : Nat → Nat → Nat) (hM : MOK N F) (cc1 : Nat) (h1 : cc1 < 12) : Rd l yX12_kindOf cX12_kindOf 4 (some .int) rm_X12_kindOf E (mW E ad lk tr N X F G) [.ref (ad 0), .int (nI cc1)] (some (.int (nI (knd (N 5) (F 10) (F 11) cc1)))) := by
  refine mk_rd (by decide) (Nat.le_of_ble_eq_true rfl) ?_
  intro p e s m args below meth c hC hK hP ls hl
  obtain ⟨hx, hb, hr, hts, hown, hml, hlk, hN⟩ := id hC
  have hl : lv_has ls 4 [(0, .ref (ad 0)), (1, .int (nI cc1))] := hl
  obtain ⟨hM5, hM9, hMp, hMq, hMn⟩ := id hM
  have hn : ∀ j, j < 4 → F 6 j < 16 := fun j _ => hMn j
  have hs0 := shl_le4 hM5
  have hcp := hMp cc1
  have hcq := hMq cc1
  refine lv_aload_n hx hb dX12_kindOf_0 rfl (lv_at hl 0 rfl) ?_
  refine lv_iload_n hx hb dX12_kindOf_1 rfl (lv_at hl 1 rfl) ?_
  refine lv_aload_n hx hb dX12_kindOf_2 rfl (lv_at hl 0 rfl) ?_
  refine va_get (D := E.1) (ci := 10) (v := .ref (ad 10)) (C := RX12) (T := TX12) (N := 30) hx hb hts iX12 hown hK hP 0 rfl rfl 10 (by decide) (hts _ kw_749) (fun _ h9 => h9) rfl dX12_kindOf_3 ?_
  refine lv_iload_n hx hb dX12_kindOf_6 rfl (lv_at hl 1 rfl) ?_
  refine n_iald hx hb hK hP 6 rfl (by omega) (by decide) dX12_kindOf_7 ?_
  refine cV_r (rest := []) hC (c_m_learnt l E ad lk tr N X F G hM cc1 ((F 10) cc1) (by omega) (by omega)) kw_903 iy_X12_learnt ⟨Nat.le_of_ble_eq_true rfl, Nat.le_of_ble_eq_true rfl⟩ ⟨rfl, rfl⟩ hK hP (va_recv hK hP (ci := 10) (q0 := 0) rfl rfl) rfl hl.1 rfl (Nat.le_of_ble_eq_true rfl) dX12_kindOf_8 ⟨Nat.le_of_ble_eq_true rfl, Nat.le_of_ble_eq_true rfl⟩ ?_
  have f_1 := lrn_lt (N 5) (F 10) (F 11) cc1 ((F 10) cc1)
  refine cS_p (rest := []) hC (c_bitsOf l (lrn (N 5) (F 10) (F 11) cc1 ((F 10) cc1)) (by omega)) kw_907 sy_X12_bitsOf ⟨Nat.le_of_ble_eq_true rfl, Nat.le_of_ble_eq_true rfl⟩ ⟨rfl, rfl⟩ rfl hl.1 rfl (Nat.le_of_ble_eq_true rfl) dX12_kindOf_11 ⟨Nat.le_of_ble_eq_true rfl, Nat.le_of_ble_eq_true rfl⟩ ?_
  have f_2 := bitsN_le (lrn (N 5) (F 10) (F 11) cc1 ((F 10) cc1)) 16
  refine lv_aload_n hx hb dX12_kindOf_14 rfl (lv_at hl 0 rfl) ?_
  refine lv_iload_n hx hb dX12_kindOf_15 rfl (lv_at hl 1 rfl) ?_
  refine lv_aload_n hx hb dX12_kindOf_16 rfl (lv_at hl 0 rfl) ?_
  refine va_get (D := E.1) (ci := 10) (v := .ref (ad 11)) (C := RX12) (T := TX12) (N := 30) hx hb hts iX12 hown hK hP 0 rfl rfl 11 (by decide) (hts _ kw_750) (fun _ h9 => h9) rfl dX12_kindOf_17 ?_
  refine lv_iload_n hx hb dX12_kindOf_20 rfl (lv_at hl 1 rfl) ?_
  refine n_iald hx hb hK hP 7 rfl (by omega) (by decide) dX12_kindOf_21 ?_
  refine cV_r (rest := [.int (nI (bitsN (lrn (N 5) (F 10) (F 11) cc1 ((F 10) cc1)) 16))]) hC (c_m_learnt l E ad lk tr N X F G hM cc1 ((F 11) cc1) (by omega) (by omega)) kw_903 iy_X12_learnt ⟨Nat.le_of_ble_eq_true rfl, Nat.le_of_ble_eq_true rfl⟩ ⟨rfl, rfl⟩ hK hP (va_recv hK hP (ci := 10) (q0 := 0) rfl rfl) rfl hl.1 rfl (Nat.le_of_ble_eq_true rfl) dX12_kindOf_22 ⟨Nat.le_of_ble_eq_true rfl, Nat.le_of_ble_eq_true rfl⟩ ?_
  have f_3 := lrn_lt (N 5) (F 10) (F 11) cc1 ((F 11) cc1)
  refine cS_p (rest := [.int (nI (bitsN (lrn (N 5) (F 10) (F 11) cc1 ((F 10) cc1)) 16))]) hC (c_bitsOf l (lrn (N 5) (F 10) (F 11) cc1 ((F 11) cc1)) (by omega)) kw_907 sy_X12_bitsOf ⟨Nat.le_of_ble_eq_true rfl, Nat.le_of_ble_eq_true rfl⟩ ⟨rfl, rfl⟩ rfl hl.1 rfl (Nat.le_of_ble_eq_true rfl) dX12_kindOf_25 ⟨Nat.le_of_ble_eq_true rfl, Nat.le_of_ble_eq_true rfl⟩ ?_
  have f_4 := bitsN_le (lrn (N 5) (F 10) (F 11) cc1 ((F 11) cc1)) 16
  refine n_iadd hx hb dX12_kindOf_28 ?_
  refine lv_istore_n (lv' := [(2, .int (nI ((bitsN (lrn (N 5) (F 10) (F 11) cc1 ((F 10) cc1)) 16) + (bitsN (lrn (N 5) (F 10) (F 11) cc1 ((F 11) cc1)) 16)))), (0, .ref (ad 0)), (1, .int (nI cc1))]) hx hb dX12_kindOf_29 rfl hl (by decide) rfl (fun ls hl => ?_)
  refine lv_aload_n hx hb dX12_kindOf_30 rfl (lv_at hl 1 rfl) ?_
  refine lv_iload_n hx hb dX12_kindOf_31 rfl (lv_at hl 2 rfl) ?_
  refine lv_iconst (v := nI 1) hx hb dX12_kindOf_32 (by decide) ?_
  refine n_iadd hx hb dX12_kindOf_33 ?_
  refine cV_r (rest := []) hC (c_m_stateAt l E ad lk tr N X F G hM (cc1 + 1) (by omega)) kw_862 iy_X12_stateAt ⟨Nat.le_of_ble_eq_true rfl, Nat.le_of_ble_eq_true rfl⟩ ⟨rfl, rfl⟩ hK hP (va_recv hK hP (ci := 10) (q0 := 0) rfl rfl) rfl hl.1 rfl (Nat.le_of_ble_eq_true rfl) dX12_kindOf_34 ⟨Nat.le_of_ble_eq_true rfl, Nat.le_of_ble_eq_true rfl⟩ ?_
  have f_5 := stS_lt (n := N 5) hMp hMq (cc1 + 1)
  refine lv_aload_n hx hb dX12_kindOf_37 rfl (lv_at hl 1 rfl) ?_
  refine va_get (D := E.1) (ci := 10) (v := .ref (ad 10)) (C := RX12) (T := TX12) (N := 30) hx hb hts iX12 hown hK hP 0 rfl rfl 10 (by decide) (hts _ kw_749) (fun _ h9 => h9) rfl dX12_kindOf_38 ?_
  refine lv_iload_n hx hb dX12_kindOf_41 rfl (lv_at hl 2 rfl) ?_
  refine n_iald hx hb hK hP 6 rfl (by omega) (by decide) dX12_kindOf_42 ?_
  refine cS_p (rest := []) hC (c_of l (stS (N 5) (F 10) (F 11) (cc1 + 1)) ((F 10) cc1) (by omega) (by omega)) kw_874 sy_X12_of ⟨Nat.le_of_ble_eq_true rfl, Nat.le_of_ble_eq_true rfl⟩ ⟨rfl, rfl⟩ rfl hl.1 rfl (Nat.le_of_ble_eq_true rfl) dX12_kindOf_43 ⟨Nat.le_of_ble_eq_true rfl, Nat.le_of_ble_eq_true rfl⟩ ?_
  have f_6 := of4_lt (stS (N 5) (F 10) (F 11) (cc1 + 1)) ((F 10) cc1)
  refine lv_iconst (v := nI 1) hx hb dX12_kindOf_46 (by decide) ?_
  refine lv_aload_n hx hb dX12_kindOf_47 rfl (lv_at hl 1 rfl) ?_
  refine va_get (D := E.1) (ci := 10) (v := .int (nI (N 5))) (C := RX12) (T := TX12) (N := 30) hx hb hts iX12 hown hK hP 0 rfl rfl 5 (by decide) (hts _ kw_744) (fun _ h9 => h9) rfl dX12_kindOf_48 ?_
  refine n_ishl hx hb (by omega) dX12_kindOf_51 ?_
  refine lv_iconst (v := nI 1) hx hb dX12_kindOf_52 (by decide) ?_
  refine n_isub hx hb (by omega) dX12_kindOf_53 ?_
  refine n_icmp_ne (tgt := 61) hx hb (by omega) (by omega) dX12_kindOf_54 (by decide) (fun c_7 => ?_) (fun c_7 => ?_)
  · -- t 61
    refine lv_iconst (v := nI 0) hx hb dX12_kindOf_61 (by decide) ?_
    refine lv_istore_n (lv' := [(3, .int (nI 0)), (2, .int (nI ((bitsN (lrn (N 5) (F 10) (F 11) cc1 ((F 10) cc1)) 16) + (bitsN (lrn (N 5) (F 10) (F 11) cc1 ((F 11) cc1)) 16)))), (0, .ref (ad 0)), (1, .int (nI cc1))]) hx hb dX12_kindOf_62 rfl hl (by decide) rfl (fun ls hl => ?_)
    refine lv_iload_n hx hb dX12_kindOf_63 rfl (lv_at hl 1 rfl) ?_
    refine n_if_ne (tgt := 71) hx hb (by omega) dX12_kindOf_64 (by decide) (fun c_8 => ?_) (fun c_8 => ?_)
    · -- t 71
      refine lv_iload_n hx hb dX12_kindOf_71 rfl (lv_at hl 0 rfl) ?_
      refine n_if_eq (tgt := 79) hx hb (by omega) dX12_kindOf_72 (by decide) (fun _ => ?_) (fun c_9 => absurd rfl c_9)
      refine lv_iconst (v := nI 1) hx hb dX12_kindOf_79 (by decide) ?_
      exact rz_iE hC (by rw [knd, if_neg c_8, if_neg c_7]) dX12_kindOf_80
    · -- f 67
      refine lv_iconst (v := nI 0) hx hb dX12_kindOf_67 (by decide) ?_
      refine lv_goto (tgt := 80) hx hb dX12_kindOf_68 (by decide) ?_
      exact rz_iE hC (by rw [knd, if_pos c_8]) dX12_kindOf_80
  · -- f 57
    refine lv_iconst (v := nI 1) hx hb dX12_kindOf_57 (by decide) ?_
    refine lv_goto (tgt := 62) hx hb dX12_kindOf_58 (by decide) ?_
    refine lv_istore_n (lv' := [(3, .int (nI 1)), (2, .int (nI ((bitsN (lrn (N 5) (F 10) (F 11) cc1 ((F 10) cc1)) 16) + (bitsN (lrn (N 5) (F 10) (F 11) cc1 ((F 11) cc1)) 16)))), (0, .ref (ad 0)), (1, .int (nI cc1))]) hx hb dX12_kindOf_62 rfl hl (by decide) rfl (fun ls hl => ?_)
    refine lv_iload_n hx hb dX12_kindOf_63 rfl (lv_at hl 1 rfl) ?_
    refine n_if_ne (tgt := 71) hx hb (by omega) dX12_kindOf_64 (by decide) (fun c_10 => ?_) (fun c_10 => ?_)
    · -- t 71
      refine lv_iload_n hx hb dX12_kindOf_71 rfl (lv_at hl 0 rfl) ?_
      refine n_if_eq (tgt := 79) hx hb (by omega) dX12_kindOf_72 (by decide) (fun c_11 => absurd c_11 (by decide)) (fun _ => ?_)
      refine lv_iconst (v := nI 2) hx hb dX12_kindOf_75 (by decide) ?_
      refine lv_goto (tgt := 80) hx hb dX12_kindOf_76 (by decide) ?_
      exact rz_iE hC (by rw [knd, if_neg c_10, if_pos c_7]) dX12_kindOf_80
    · -- f 67
      refine lv_iconst (v := nI 0) hx hb dX12_kindOf_67 (by decide) ?_
      refine lv_goto (tgt := 80) hx hb dX12_kindOf_68 (by decide) ?_
      exact rz_iE hC (by rw [knd, if_pos c_10]) dX12_kindOf_80
end
