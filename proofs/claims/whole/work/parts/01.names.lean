-- ===== PART A: goes FIRST, ahead of the names: the tables' words, and 'selects' of the private methods out of them =====
/-- a private method of a class that the tables say can be made, by its rows of tables_1 -/
def lw_okq (q : MethodName × Nat) : Prop := (q.1.cls ≠ "java/lang/invoke/MethodHandle" ∧ q.1.cls ≠ "java/lang/invoke/VarHandle") ∧ Cond.instantiable q.1.cls q.2 ∈ tables_1 ∧ Cond.privateMethod q.1 ∈ tables_1 ∧ Cond.instanceMethod q.1 ∈ tables_1
theorem lw_p0 : lw_okq (⟨"TruceLine$Reader", "splitTape", "()V"⟩, 9) := ⟨⟨by decide +kernel, by decide +kernel⟩, List.mem_of_getElem? (i := 148) (by decide +kernel), List.mem_of_getElem? (i := 243) (by decide +kernel), List.mem_of_getElem? (i := 244) (by decide +kernel)⟩
theorem lw_p1 : lw_okq (⟨"TruceLine$Reader", "endOf", "(I)I"⟩, 9) := ⟨⟨by decide +kernel, by decide +kernel⟩, List.mem_of_getElem? (i := 148) (by decide +kernel), List.mem_of_getElem? (i := 247) (by decide +kernel), List.mem_of_getElem? (i := 248) (by decide +kernel)⟩
theorem lw_p2 : lw_okq (⟨"TruceLine$Reader", "tokenOf", "(II)I"⟩, 9) := ⟨⟨by decide +kernel, by decide +kernel⟩, List.mem_of_getElem? (i := 148) (by decide +kernel), List.mem_of_getElem? (i := 257) (by decide +kernel), List.mem_of_getElem? (i := 258) (by decide +kernel)⟩
theorem lw_p3 : lw_okq (⟨"TruceLine$Reader", "wordOf", "(II)I"⟩, 9) := ⟨⟨by decide +kernel, by decide +kernel⟩, List.mem_of_getElem? (i := 148) (by decide +kernel), List.mem_of_getElem? (i := 261) (by decide +kernel), List.mem_of_getElem? (i := 262) (by decide +kernel)⟩
theorem lw_p4 : lw_okq (⟨"TruceLine$Reader", "isSpelt", "(IILjava/lang/String;)Z"⟩, 9) := ⟨⟨by decide +kernel, by decide +kernel⟩, List.mem_of_getElem? (i := 148) (by decide +kernel), List.mem_of_getElem? (i := 266) (by decide +kernel), List.mem_of_getElem? (i := 267) (by decide +kernel)⟩
theorem lw_p5 : lw_okq (⟨"TruceLine$Reader", "readPart", "(I[I)V"⟩, 9) := ⟨⟨by decide +kernel, by decide +kernel⟩, List.mem_of_getElem? (i := 148) (by decide +kernel), List.mem_of_getElem? (i := 282) (by decide +kernel), List.mem_of_getElem? (i := 283) (by decide +kernel)⟩
theorem lw_p6 : lw_okq (⟨"TruceLine$Reader", "expect", "(I)V"⟩, 9) := ⟨⟨by decide +kernel, by decide +kernel⟩, List.mem_of_getElem? (i := 148) (by decide +kernel), List.mem_of_getElem? (i := 286) (by decide +kernel), List.mem_of_getElem? (i := 287) (by decide +kernel)⟩
theorem lw_p7 : lw_okq (⟨"TruceLine$Reader", "isNext", "(I)Z"⟩, 9) := ⟨⟨by decide +kernel, by decide +kernel⟩, List.mem_of_getElem? (i := 148) (by decide +kernel), List.mem_of_getElem? (i := 290) (by decide +kernel), List.mem_of_getElem? (i := 291) (by decide +kernel)⟩
theorem lw_p8 : lw_okq (⟨"TruceLine$Reader", "skipToken", "()V"⟩, 9) := ⟨⟨by decide +kernel, by decide +kernel⟩, List.mem_of_getElem? (i := 148) (by decide +kernel), List.mem_of_getElem? (i := 294) (by decide +kernel), List.mem_of_getElem? (i := 295) (by decide +kernel)⟩
theorem lw_p9 : lw_okq (⟨"TruceLine$Reader", "fail", "()V"⟩, 9) := ⟨⟨by decide +kernel, by decide +kernel⟩, List.mem_of_getElem? (i := 148) (by decide +kernel), List.mem_of_getElem? (i := 298) (by decide +kernel), List.mem_of_getElem? (i := 299) (by decide +kernel)⟩
theorem lw_p10 : lw_okq (⟨"TruceLine$Reader", "readOr", "(I)V"⟩, 9) := ⟨⟨by decide +kernel, by decide +kernel⟩, List.mem_of_getElem? (i := 148) (by decide +kernel), List.mem_of_getElem? (i := 302) (by decide +kernel), List.mem_of_getElem? (i := 303) (by decide +kernel)⟩
theorem lw_p11 : lw_okq (⟨"TruceLine$Reader", "readAnd", "(I)V"⟩, 9) := ⟨⟨by decide +kernel, by decide +kernel⟩, List.mem_of_getElem? (i := 148) (by decide +kernel), List.mem_of_getElem? (i := 306) (by decide +kernel), List.mem_of_getElem? (i := 307) (by decide +kernel)⟩
theorem lw_p12 : lw_okq (⟨"TruceLine$Reader", "readNot", "(I)V"⟩, 9) := ⟨⟨by decide +kernel, by decide +kernel⟩, List.mem_of_getElem? (i := 148) (by decide +kernel), List.mem_of_getElem? (i := 310) (by decide +kernel), List.mem_of_getElem? (i := 311) (by decide +kernel)⟩
theorem lw_p13 : lw_okq (⟨"TruceLine$Reader", "readComparison", "(I)V"⟩, 9) := ⟨⟨by decide +kernel, by decide +kernel⟩, List.mem_of_getElem? (i := 148) (by decide +kernel), List.mem_of_getElem? (i := 314) (by decide +kernel), List.mem_of_getElem? (i := 315) (by decide +kernel)⟩
theorem lw_p14 : lw_okq (⟨"TruceLine$Reader", "readSum", "(I)V"⟩, 9) := ⟨⟨by decide +kernel, by decide +kernel⟩, List.mem_of_getElem? (i := 148) (by decide +kernel), List.mem_of_getElem? (i := 318) (by decide +kernel), List.mem_of_getElem? (i := 319) (by decide +kernel)⟩
theorem lw_p15 : lw_okq (⟨"TruceLine$Reader", "readTerm", "(I)V"⟩, 9) := ⟨⟨by decide +kernel, by decide +kernel⟩, List.mem_of_getElem? (i := 148) (by decide +kernel), List.mem_of_getElem? (i := 322) (by decide +kernel), List.mem_of_getElem? (i := 323) (by decide +kernel)⟩
def lw_privs_1 : List (MethodName × Nat) := [(⟨"TruceLine$Reader", "splitTape", "()V"⟩, 9), (⟨"TruceLine$Reader", "endOf", "(I)I"⟩, 9), (⟨"TruceLine$Reader", "tokenOf", "(II)I"⟩, 9), (⟨"TruceLine$Reader", "wordOf", "(II)I"⟩, 9), (⟨"TruceLine$Reader", "isSpelt", "(IILjava/lang/String;)Z"⟩, 9), (⟨"TruceLine$Reader", "readPart", "(I[I)V"⟩, 9), (⟨"TruceLine$Reader", "expect", "(I)V"⟩, 9), (⟨"TruceLine$Reader", "isNext", "(I)Z"⟩, 9), (⟨"TruceLine$Reader", "skipToken", "()V"⟩, 9), (⟨"TruceLine$Reader", "fail", "()V"⟩, 9), (⟨"TruceLine$Reader", "readOr", "(I)V"⟩, 9), (⟨"TruceLine$Reader", "readAnd", "(I)V"⟩, 9), (⟨"TruceLine$Reader", "readNot", "(I)V"⟩, 9), (⟨"TruceLine$Reader", "readComparison", "(I)V"⟩, 9), (⟨"TruceLine$Reader", "readSum", "(I)V"⟩, 9), (⟨"TruceLine$Reader", "readTerm", "(I)V"⟩, 9)]
theorem lw_r1 : ∀ q ∈ lw_privs_1, lw_okq q := List.forall_mem_cons.mpr ⟨lw_p0, List.forall_mem_cons.mpr ⟨lw_p1, List.forall_mem_cons.mpr ⟨lw_p2, List.forall_mem_cons.mpr ⟨lw_p3, List.forall_mem_cons.mpr ⟨lw_p4, List.forall_mem_cons.mpr ⟨lw_p5, List.forall_mem_cons.mpr ⟨lw_p6, List.forall_mem_cons.mpr ⟨lw_p7, List.forall_mem_cons.mpr ⟨lw_p8, List.forall_mem_cons.mpr ⟨lw_p9, List.forall_mem_cons.mpr ⟨lw_p10, List.forall_mem_cons.mpr ⟨lw_p11, List.forall_mem_cons.mpr ⟨lw_p12, List.forall_mem_cons.mpr ⟨lw_p13, List.forall_mem_cons.mpr ⟨lw_p14, List.forall_mem_cons.mpr ⟨lw_p15, fun _ h => absurd h List.not_mem_nil⟩⟩⟩⟩⟩⟩⟩⟩⟩⟩⟩⟩⟩⟩⟩⟩
theorem lw_p16 : lw_okq (⟨"TruceLine$Reader", "readOne", "(I)V"⟩, 9) := ⟨⟨by decide +kernel, by decide +kernel⟩, List.mem_of_getElem? (i := 148) (by decide +kernel), List.mem_of_getElem? (i := 326) (by decide +kernel), List.mem_of_getElem? (i := 327) (by decide +kernel)⟩
theorem lw_p17 : lw_okq (⟨"TruceLine$Reader", "numberAt", "(I)I"⟩, 9) := ⟨⟨by decide +kernel, by decide +kernel⟩, List.mem_of_getElem? (i := 148) (by decide +kernel), List.mem_of_getElem? (i := 330) (by decide +kernel), List.mem_of_getElem? (i := 331) (by decide +kernel)⟩
theorem lw_p18 : lw_okq (⟨"TruceLine$Reader", "write", "(I)V"⟩, 9) := ⟨⟨by decide +kernel, by decide +kernel⟩, List.mem_of_getElem? (i := 148) (by decide +kernel), List.mem_of_getElem? (i := 334) (by decide +kernel), List.mem_of_getElem? (i := 335) (by decide +kernel)⟩
theorem lw_p19 : lw_okq (⟨"TruceLine$Law", "tellName", "(II)V"⟩, 4) := ⟨⟨by decide +kernel, by decide +kernel⟩, List.mem_of_getElem? (i := 371) (by decide +kernel), List.mem_of_getElem? (i := 767) (by decide +kernel), List.mem_of_getElem? (i := 768) (by decide +kernel)⟩
theorem lw_p20 : lw_okq (⟨"TruceLine$Law", "signedFar", "(LTruceLine$Mark;I)I"⟩, 4) := ⟨⟨by decide +kernel, by decide +kernel⟩, List.mem_of_getElem? (i := 371) (by decide +kernel), List.mem_of_getElem? (i := 771) (by decide +kernel), List.mem_of_getElem? (i := 772) (by decide +kernel)⟩
theorem lw_p21 : lw_okq (⟨"TruceLine$Law", "isOnOtherSide", "(LTruceLine$Mark;I)Z"⟩, 4) := ⟨⟨by decide +kernel, by decide +kernel⟩, List.mem_of_getElem? (i := 371) (by decide +kernel), List.mem_of_getElem? (i := 776) (by decide +kernel), List.mem_of_getElem? (i := 777) (by decide +kernel)⟩
theorem lw_p22 : lw_okq (⟨"TruceLine$Incidents", "isNoticed", "(IIII)Z"⟩, 15) := ⟨⟨by decide +kernel, by decide +kernel⟩, List.mem_of_getElem? (i := 390) (by decide +kernel), List.mem_of_getElem? (i := 879) (by decide +kernel), List.mem_of_getElem? (i := 880) (by decide +kernel)⟩
theorem lw_p23 : lw_okq (⟨"TruceLine$Incidents", "isLetByAll", "(II)Z"⟩, 15) := ⟨⟨by decide +kernel, by decide +kernel⟩, List.mem_of_getElem? (i := 390) (by decide +kernel), List.mem_of_getElem? (i := 907) (by decide +kernel), List.mem_of_getElem? (i := 908) (by decide +kernel)⟩
theorem lw_p24 : lw_okq (⟨"TruceLine$Shooting", "calledForth", "(III)I"⟩, 2) := ⟨⟨by decide +kernel, by decide +kernel⟩, List.mem_of_getElem? (i := 446) (by decide +kernel), List.mem_of_getElem? (i := 973) (by decide +kernel), List.mem_of_getElem? (i := 974) (by decide +kernel)⟩
theorem lw_p25 : lw_okq (⟨"TruceLine$Shooting", "heardBy", "(III)I"⟩, 2) := ⟨⟨by decide +kernel, by decide +kernel⟩, List.mem_of_getElem? (i := 446) (by decide +kernel), List.mem_of_getElem? (i := 979) (by decide +kernel), List.mem_of_getElem? (i := 980) (by decide +kernel)⟩
theorem lw_p26 : lw_okq (⟨"TruceLine$Plans", "lookFromAll", "(I)V"⟩, 8) := ⟨⟨by decide +kernel, by decide +kernel⟩, List.mem_of_getElem? (i := 459) (by decide +kernel), List.mem_of_getElem? (i := 1014) (by decide +kernel), List.mem_of_getElem? (i := 1015) (by decide +kernel)⟩
theorem lw_p27 : lw_okq (⟨"TruceLine$Plans", "isGunHere", "(I)Z"⟩, 8) := ⟨⟨by decide +kernel, by decide +kernel⟩, List.mem_of_getElem? (i := 459) (by decide +kernel), List.mem_of_getElem? (i := 1043) (by decide +kernel), List.mem_of_getElem? (i := 1044) (by decide +kernel)⟩
theorem lw_p28 : lw_okq (⟨"TruceLine$Plans", "tellGuns", "(I)V"⟩, 8) := ⟨⟨by decide +kernel, by decide +kernel⟩, List.mem_of_getElem? (i := 459) (by decide +kernel), List.mem_of_getElem? (i := 1053) (by decide +kernel), List.mem_of_getElem? (i := 1054) (by decide +kernel)⟩
theorem lw_p29 : lw_okq (⟨"TruceLine$Plans", "openSets", "(I)V"⟩, 8) := ⟨⟨by decide +kernel, by decide +kernel⟩, List.mem_of_getElem? (i := 459) (by decide +kernel), List.mem_of_getElem? (i := 1057) (by decide +kernel), List.mem_of_getElem? (i := 1058) (by decide +kernel)⟩
theorem lw_p30 : lw_okq (⟨"TruceLine$Plans", "leadOf", "(I)I"⟩, 8) := ⟨⟨by decide +kernel, by decide +kernel⟩, List.mem_of_getElem? (i := 459) (by decide +kernel), List.mem_of_getElem? (i := 1065) (by decide +kernel), List.mem_of_getElem? (i := 1066) (by decide +kernel)⟩
theorem lw_p31 : lw_okq (⟨"TruceLine$Plans", "nextDrawn", "(I)I"⟩, 8) := ⟨⟨by decide +kernel, by decide +kernel⟩, List.mem_of_getElem? (i := 459) (by decide +kernel), List.mem_of_getElem? (i := 1070) (by decide +kernel), List.mem_of_getElem? (i := 1071) (by decide +kernel)⟩
def lw_privs_2 : List (MethodName × Nat) := [(⟨"TruceLine$Reader", "readOne", "(I)V"⟩, 9), (⟨"TruceLine$Reader", "numberAt", "(I)I"⟩, 9), (⟨"TruceLine$Reader", "write", "(I)V"⟩, 9), (⟨"TruceLine$Law", "tellName", "(II)V"⟩, 4), (⟨"TruceLine$Law", "signedFar", "(LTruceLine$Mark;I)I"⟩, 4), (⟨"TruceLine$Law", "isOnOtherSide", "(LTruceLine$Mark;I)Z"⟩, 4), (⟨"TruceLine$Incidents", "isNoticed", "(IIII)Z"⟩, 15), (⟨"TruceLine$Incidents", "isLetByAll", "(II)Z"⟩, 15), (⟨"TruceLine$Shooting", "calledForth", "(III)I"⟩, 2), (⟨"TruceLine$Shooting", "heardBy", "(III)I"⟩, 2), (⟨"TruceLine$Plans", "lookFromAll", "(I)V"⟩, 8), (⟨"TruceLine$Plans", "isGunHere", "(I)Z"⟩, 8), (⟨"TruceLine$Plans", "tellGuns", "(I)V"⟩, 8), (⟨"TruceLine$Plans", "openSets", "(I)V"⟩, 8), (⟨"TruceLine$Plans", "leadOf", "(I)I"⟩, 8), (⟨"TruceLine$Plans", "nextDrawn", "(I)I"⟩, 8)]
theorem lw_r2 : ∀ q ∈ lw_privs_2, lw_okq q := List.forall_mem_cons.mpr ⟨lw_p16, List.forall_mem_cons.mpr ⟨lw_p17, List.forall_mem_cons.mpr ⟨lw_p18, List.forall_mem_cons.mpr ⟨lw_p19, List.forall_mem_cons.mpr ⟨lw_p20, List.forall_mem_cons.mpr ⟨lw_p21, List.forall_mem_cons.mpr ⟨lw_p22, List.forall_mem_cons.mpr ⟨lw_p23, List.forall_mem_cons.mpr ⟨lw_p24, List.forall_mem_cons.mpr ⟨lw_p25, List.forall_mem_cons.mpr ⟨lw_p26, List.forall_mem_cons.mpr ⟨lw_p27, List.forall_mem_cons.mpr ⟨lw_p28, List.forall_mem_cons.mpr ⟨lw_p29, List.forall_mem_cons.mpr ⟨lw_p30, List.forall_mem_cons.mpr ⟨lw_p31, fun _ h => absurd h List.not_mem_nil⟩⟩⟩⟩⟩⟩⟩⟩⟩⟩⟩⟩⟩⟩⟩⟩
theorem lw_p32 : lw_okq (⟨"TruceLine", "tellHeights", "(ILTruceLine$Sheet;II)I"⟩, 9) := ⟨⟨by decide +kernel, by decide +kernel⟩, List.mem_of_getElem? (i := 24) (by decide +kernel), List.mem_of_getElem? (i := 1181) (by decide +kernel), List.mem_of_getElem? (i := 1182) (by decide +kernel)⟩
theorem lw_p33 : lw_okq (⟨"TruceLineModel", "ruleZero", "()V"⟩, 67) := ⟨⟨by decide +kernel, by decide +kernel⟩, List.mem_of_getElem? (i := 1189) (by decide +kernel), List.mem_of_getElem? (i := 1195) (by decide +kernel), List.mem_of_getElem? (i := 1196) (by decide +kernel)⟩
theorem lw_p34 : lw_okq (⟨"TruceLineModel", "isCell", "(I)Z"⟩, 67) := ⟨⟨by decide +kernel, by decide +kernel⟩, List.mem_of_getElem? (i := 1189) (by decide +kernel), List.mem_of_getElem? (i := 1405) (by decide +kernel), List.mem_of_getElem? (i := 1406) (by decide +kernel)⟩
theorem lw_p35 : lw_okq (⟨"TruceLineModel", "in", "(III)Z"⟩, 67) := ⟨⟨by decide +kernel, by decide +kernel⟩, List.mem_of_getElem? (i := 1189) (by decide +kernel), List.mem_of_getElem? (i := 1409) (by decide +kernel), List.mem_of_getElem? (i := 1410) (by decide +kernel)⟩
theorem lw_p36 : lw_okq (⟨"TruceLineModel", "sideAt", "(I)I"⟩, 67) := ⟨⟨by decide +kernel, by decide +kernel⟩, List.mem_of_getElem? (i := 1189) (by decide +kernel), List.mem_of_getElem? (i := 1425) (by decide +kernel), List.mem_of_getElem? (i := 1426) (by decide +kernel)⟩
theorem lw_p37 : lw_okq (⟨"TruceLineModel", "farAt", "(I)I"⟩, 67) := ⟨⟨by decide +kernel, by decide +kernel⟩, List.mem_of_getElem? (i := 1189) (by decide +kernel), List.mem_of_getElem? (i := 1429) (by decide +kernel), List.mem_of_getElem? (i := 1430) (by decide +kernel)⟩
theorem lw_p38 : lw_okq (⟨"TruceLineModel", "isMark", "(I)Z"⟩, 67) := ⟨⟨by decide +kernel, by decide +kernel⟩, List.mem_of_getElem? (i := 1189) (by decide +kernel), List.mem_of_getElem? (i := 1441) (by decide +kernel), List.mem_of_getElem? (i := 1442) (by decide +kernel)⟩
theorem lw_p39 : lw_okq (⟨"TruceLineModel", "isUnder", "(II)Z"⟩, 67) := ⟨⟨by decide +kernel, by decide +kernel⟩, List.mem_of_getElem? (i := 1189) (by decide +kernel), List.mem_of_getElem? (i := 1445) (by decide +kernel), List.mem_of_getElem? (i := 1446) (by decide +kernel)⟩
theorem lw_p40 : lw_okq (⟨"TruceLineModel", "earOf", "(I)I"⟩, 67) := ⟨⟨by decide +kernel, by decide +kernel⟩, List.mem_of_getElem? (i := 1189) (by decide +kernel), List.mem_of_getElem? (i := 1457) (by decide +kernel), List.mem_of_getElem? (i := 1458) (by decide +kernel)⟩
theorem lw_p41 : lw_okq (⟨"TruceLineModel", "isHour", "(I)Z"⟩, 67) := ⟨⟨by decide +kernel, by decide +kernel⟩, List.mem_of_getElem? (i := 1189) (by decide +kernel), List.mem_of_getElem? (i := 1465) (by decide +kernel), List.mem_of_getElem? (i := 1466) (by decide +kernel)⟩
theorem lw_p42 : lw_okq (⟨"TruceLineModel", "cellOf", "(II)I"⟩, 67) := ⟨⟨by decide +kernel, by decide +kernel⟩, List.mem_of_getElem? (i := 1189) (by decide +kernel), List.mem_of_getElem? (i := 1469) (by decide +kernel), List.mem_of_getElem? (i := 1470) (by decide +kernel)⟩
theorem lw_p43 : lw_okq (⟨"TruceLineModel", "sightOf", "(III)I"⟩, 67) := ⟨⟨by decide +kernel, by decide +kernel⟩, List.mem_of_getElem? (i := 1189) (by decide +kernel), List.mem_of_getElem? (i := 1477) (by decide +kernel), List.mem_of_getElem? (i := 1478) (by decide +kernel)⟩
theorem lw_p44 : lw_okq (⟨"TruceLineModel", "isNight", "(I)Z"⟩, 67) := ⟨⟨by decide +kernel, by decide +kernel⟩, List.mem_of_getElem? (i := 1189) (by decide +kernel), List.mem_of_getElem? (i := 1481) (by decide +kernel), List.mem_of_getElem? (i := 1482) (by decide +kernel)⟩
theorem lw_p45 : lw_okq (⟨"TruceLineModel", "seenBy", "(II)J"⟩, 67) := ⟨⟨by decide +kernel, by decide +kernel⟩, List.mem_of_getElem? (i := 1189) (by decide +kernel), List.mem_of_getElem? (i := 1489) (by decide +kernel), List.mem_of_getElem? (i := 1490) (by decide +kernel)⟩
theorem lw_p46 : lw_okq (⟨"TruceLineModel", "seenFrom", "(III)J"⟩, 67) := ⟨⟨by decide +kernel, by decide +kernel⟩, List.mem_of_getElem? (i := 1189) (by decide +kernel), List.mem_of_getElem? (i := 1493) (by decide +kernel), List.mem_of_getElem? (i := 1494) (by decide +kernel)⟩
theorem lw_p47 : lw_okq (⟨"TruceLineModel", "apart", "(II)I"⟩, 67) := ⟨⟨by decide +kernel, by decide +kernel⟩, List.mem_of_getElem? (i := 1189) (by decide +kernel), List.mem_of_getElem? (i := 1497) (by decide +kernel), List.mem_of_getElem? (i := 1498) (by decide +kernel)⟩
def lw_privs_3 : List (MethodName × Nat) := [(⟨"TruceLine", "tellHeights", "(ILTruceLine$Sheet;II)I"⟩, 9), (⟨"TruceLineModel", "ruleZero", "()V"⟩, 67), (⟨"TruceLineModel", "isCell", "(I)Z"⟩, 67), (⟨"TruceLineModel", "in", "(III)Z"⟩, 67), (⟨"TruceLineModel", "sideAt", "(I)I"⟩, 67), (⟨"TruceLineModel", "farAt", "(I)I"⟩, 67), (⟨"TruceLineModel", "isMark", "(I)Z"⟩, 67), (⟨"TruceLineModel", "isUnder", "(II)Z"⟩, 67), (⟨"TruceLineModel", "earOf", "(I)I"⟩, 67), (⟨"TruceLineModel", "isHour", "(I)Z"⟩, 67), (⟨"TruceLineModel", "cellOf", "(II)I"⟩, 67), (⟨"TruceLineModel", "sightOf", "(III)I"⟩, 67), (⟨"TruceLineModel", "isNight", "(I)Z"⟩, 67), (⟨"TruceLineModel", "seenBy", "(II)J"⟩, 67), (⟨"TruceLineModel", "seenFrom", "(III)J"⟩, 67), (⟨"TruceLineModel", "apart", "(II)I"⟩, 67)]
theorem lw_r3 : ∀ q ∈ lw_privs_3, lw_okq q := List.forall_mem_cons.mpr ⟨lw_p32, List.forall_mem_cons.mpr ⟨lw_p33, List.forall_mem_cons.mpr ⟨lw_p34, List.forall_mem_cons.mpr ⟨lw_p35, List.forall_mem_cons.mpr ⟨lw_p36, List.forall_mem_cons.mpr ⟨lw_p37, List.forall_mem_cons.mpr ⟨lw_p38, List.forall_mem_cons.mpr ⟨lw_p39, List.forall_mem_cons.mpr ⟨lw_p40, List.forall_mem_cons.mpr ⟨lw_p41, List.forall_mem_cons.mpr ⟨lw_p42, List.forall_mem_cons.mpr ⟨lw_p43, List.forall_mem_cons.mpr ⟨lw_p44, List.forall_mem_cons.mpr ⟨lw_p45, List.forall_mem_cons.mpr ⟨lw_p46, List.forall_mem_cons.mpr ⟨lw_p47, fun _ h => absurd h List.not_mem_nil⟩⟩⟩⟩⟩⟩⟩⟩⟩⟩⟩⟩⟩⟩⟩⟩
theorem lw_p48 : lw_okq (⟨"TruceLineModel", "abs", "(I)I"⟩, 67) := ⟨⟨by decide +kernel, by decide +kernel⟩, List.mem_of_getElem? (i := 1189) (by decide +kernel), List.mem_of_getElem? (i := 1501) (by decide +kernel), List.mem_of_getElem? (i := 1502) (by decide +kernel)⟩
theorem lw_p49 : lw_okq (⟨"TruceLineModel", "isClear", "(II)Z"⟩, 67) := ⟨⟨by decide +kernel, by decide +kernel⟩, List.mem_of_getElem? (i := 1189) (by decide +kernel), List.mem_of_getElem? (i := 1505) (by decide +kernel), List.mem_of_getElem? (i := 1506) (by decide +kernel)⟩
theorem lw_p50 : lw_okq (⟨"TruceLineModel", "viewOf", "(II)J"⟩, 67) := ⟨⟨by decide +kernel, by decide +kernel⟩, List.mem_of_getElem? (i := 1189) (by decide +kernel), List.mem_of_getElem? (i := 1514) (by decide +kernel), List.mem_of_getElem? (i := 1515) (by decide +kernel)⟩
theorem lw_p51 : lw_okq (⟨"TruceLineModel", "isText", "()Z"⟩, 67) := ⟨⟨by decide +kernel, by decide +kernel⟩, List.mem_of_getElem? (i := 1189) (by decide +kernel), List.mem_of_getElem? (i := 1526) (by decide +kernel), List.mem_of_getElem? (i := 1527) (by decide +kernel)⟩
theorem lw_p52 : lw_okq (⟨"TruceLineModel", "next", "()V"⟩, 67) := ⟨⟨by decide +kernel, by decide +kernel⟩, List.mem_of_getElem? (i := 1189) (by decide +kernel), List.mem_of_getElem? (i := 1530) (by decide +kernel), List.mem_of_getElem? (i := 1531) (by decide +kernel)⟩
theorem lw_p53 : lw_okq (⟨"TruceLineModel", "isLetter", "(I)Z"⟩, 67) := ⟨⟨by decide +kernel, by decide +kernel⟩, List.mem_of_getElem? (i := 1189) (by decide +kernel), List.mem_of_getElem? (i := 1534) (by decide +kernel), List.mem_of_getElem? (i := 1535) (by decide +kernel)⟩
theorem lw_p54 : lw_okq (⟨"TruceLineModel", "wordToken", "()V"⟩, 67) := ⟨⟨by decide +kernel, by decide +kernel⟩, List.mem_of_getElem? (i := 1189) (by decide +kernel), List.mem_of_getElem? (i := 1538) (by decide +kernel), List.mem_of_getElem? (i := 1539) (by decide +kernel)⟩
theorem lw_p55 : lw_okq (⟨"TruceLineModel", "isWord", "(J)Z"⟩, 67) := ⟨⟨by decide +kernel, by decide +kernel⟩, List.mem_of_getElem? (i := 1189) (by decide +kernel), List.mem_of_getElem? (i := 1543) (by decide +kernel), List.mem_of_getElem? (i := 1544) (by decide +kernel)⟩
theorem lw_p56 : lw_okq (⟨"TruceLineModel", "isDigit", "(I)Z"⟩, 67) := ⟨⟨by decide +kernel, by decide +kernel⟩, List.mem_of_getElem? (i := 1189) (by decide +kernel), List.mem_of_getElem? (i := 1558) (by decide +kernel), List.mem_of_getElem? (i := 1559) (by decide +kernel)⟩
theorem lw_p57 : lw_okq (⟨"TruceLineModel", "isKey", "(I)Z"⟩, 67) := ⟨⟨by decide +kernel, by decide +kernel⟩, List.mem_of_getElem? (i := 1189) (by decide +kernel), List.mem_of_getElem? (i := 1562) (by decide +kernel), List.mem_of_getElem? (i := 1563) (by decide +kernel)⟩
theorem lw_p58 : lw_okq (⟨"TruceLineModel", "part", "()Z"⟩, 67) := ⟨⟨by decide +kernel, by decide +kernel⟩, List.mem_of_getElem? (i := 1189) (by decide +kernel), List.mem_of_getElem? (i := 1566) (by decide +kernel), List.mem_of_getElem? (i := 1567) (by decide +kernel)⟩
theorem lw_p59 : lw_okq (⟨"TruceLineModel", "ahead", "(Z)Z"⟩, 67) := ⟨⟨by decide +kernel, by decide +kernel⟩, List.mem_of_getElem? (i := 1189) (by decide +kernel), List.mem_of_getElem? (i := 1570) (by decide +kernel), List.mem_of_getElem? (i := 1571) (by decide +kernel)⟩
theorem lw_p60 : lw_okq (⟨"TruceLineModel", "isSign", "(I)Z"⟩, 67) := ⟨⟨by decide +kernel, by decide +kernel⟩, List.mem_of_getElem? (i := 1189) (by decide +kernel), List.mem_of_getElem? (i := 1574) (by decide +kernel), List.mem_of_getElem? (i := 1575) (by decide +kernel)⟩
theorem lw_p61 : lw_okq (⟨"TruceLineModel", "hold", "(I)V"⟩, 67) := ⟨⟨by decide +kernel, by decide +kernel⟩, List.mem_of_getElem? (i := 1189) (by decide +kernel), List.mem_of_getElem? (i := 1578) (by decide +kernel), List.mem_of_getElem? (i := 1579) (by decide +kernel)⟩
theorem lw_p62 : lw_okq (⟨"TruceLineModel", "put", "(I)V"⟩, 67) := ⟨⟨by decide +kernel, by decide +kernel⟩, List.mem_of_getElem? (i := 1189) (by decide +kernel), List.mem_of_getElem? (i := 1582) (by decide +kernel), List.mem_of_getElem? (i := 1583) (by decide +kernel)⟩
theorem lw_p63 : lw_okq (⟨"TruceLineModel", "settle", "(I)V"⟩, 67) := ⟨⟨by decide +kernel, by decide +kernel⟩, List.mem_of_getElem? (i := 1189) (by decide +kernel), List.mem_of_getElem? (i := 1586) (by decide +kernel), List.mem_of_getElem? (i := 1587) (by decide +kernel)⟩
def lw_privs_4 : List (MethodName × Nat) := [(⟨"TruceLineModel", "abs", "(I)I"⟩, 67), (⟨"TruceLineModel", "isClear", "(II)Z"⟩, 67), (⟨"TruceLineModel", "viewOf", "(II)J"⟩, 67), (⟨"TruceLineModel", "isText", "()Z"⟩, 67), (⟨"TruceLineModel", "next", "()V"⟩, 67), (⟨"TruceLineModel", "isLetter", "(I)Z"⟩, 67), (⟨"TruceLineModel", "wordToken", "()V"⟩, 67), (⟨"TruceLineModel", "isWord", "(J)Z"⟩, 67), (⟨"TruceLineModel", "isDigit", "(I)Z"⟩, 67), (⟨"TruceLineModel", "isKey", "(I)Z"⟩, 67), (⟨"TruceLineModel", "part", "()Z"⟩, 67), (⟨"TruceLineModel", "ahead", "(Z)Z"⟩, 67), (⟨"TruceLineModel", "isSign", "(I)Z"⟩, 67), (⟨"TruceLineModel", "hold", "(I)V"⟩, 67), (⟨"TruceLineModel", "put", "(I)V"⟩, 67), (⟨"TruceLineModel", "settle", "(I)V"⟩, 67)]
theorem lw_r4 : ∀ q ∈ lw_privs_4, lw_okq q := List.forall_mem_cons.mpr ⟨lw_p48, List.forall_mem_cons.mpr ⟨lw_p49, List.forall_mem_cons.mpr ⟨lw_p50, List.forall_mem_cons.mpr ⟨lw_p51, List.forall_mem_cons.mpr ⟨lw_p52, List.forall_mem_cons.mpr ⟨lw_p53, List.forall_mem_cons.mpr ⟨lw_p54, List.forall_mem_cons.mpr ⟨lw_p55, List.forall_mem_cons.mpr ⟨lw_p56, List.forall_mem_cons.mpr ⟨lw_p57, List.forall_mem_cons.mpr ⟨lw_p58, List.forall_mem_cons.mpr ⟨lw_p59, List.forall_mem_cons.mpr ⟨lw_p60, List.forall_mem_cons.mpr ⟨lw_p61, List.forall_mem_cons.mpr ⟨lw_p62, List.forall_mem_cons.mpr ⟨lw_p63, fun _ h => absurd h List.not_mem_nil⟩⟩⟩⟩⟩⟩⟩⟩⟩⟩⟩⟩⟩⟩⟩⟩
theorem lw_p64 : lw_okq (⟨"TruceLineModel", "rank", "(I)I"⟩, 67) := ⟨⟨by decide +kernel, by decide +kernel⟩, List.mem_of_getElem? (i := 1189) (by decide +kernel), List.mem_of_getElem? (i := 1590) (by decide +kernel), List.mem_of_getElem? (i := 1591) (by decide +kernel)⟩
theorem lw_p65 : lw_okq (⟨"TruceLineModel", "signOf", "()I"⟩, 67) := ⟨⟨by decide +kernel, by decide +kernel⟩, List.mem_of_getElem? (i := 1189) (by decide +kernel), List.mem_of_getElem? (i := 1594) (by decide +kernel), List.mem_of_getElem? (i := 1595) (by decide +kernel)⟩
theorem lw_p66 : lw_okq (⟨"TruceLineModel", "ask", "(IIII)I"⟩, 67) := ⟨⟨by decide +kernel, by decide +kernel⟩, List.mem_of_getElem? (i := 1189) (by decide +kernel), List.mem_of_getElem? (i := 1606) (by decide +kernel), List.mem_of_getElem? (i := 1607) (by decide +kernel)⟩
theorem lw_p67 : lw_okq (⟨"TruceLineModel", "work", "(II)I"⟩, 67) := ⟨⟨by decide +kernel, by decide +kernel⟩, List.mem_of_getElem? (i := 1189) (by decide +kernel), List.mem_of_getElem? (i := 1610) (by decide +kernel), List.mem_of_getElem? (i := 1611) (by decide +kernel)⟩
theorem lw_p68 : lw_okq (⟨"TruceLineModel", "both", "(III)I"⟩, 67) := ⟨⟨by decide +kernel, by decide +kernel⟩, List.mem_of_getElem? (i := 1189) (by decide +kernel), List.mem_of_getElem? (i := 1614) (by decide +kernel), List.mem_of_getElem? (i := 1615) (by decide +kernel)⟩
theorem lw_p69 : lw_okq (⟨"TruceLineModel", "isDoing", "(I)Z"⟩, 67) := ⟨⟨by decide +kernel, by decide +kernel⟩, List.mem_of_getElem? (i := 1189) (by decide +kernel), List.mem_of_getElem? (i := 1650) (by decide +kernel), List.mem_of_getElem? (i := 1651) (by decide +kernel)⟩
theorem lw_p70 : lw_okq (⟨"TruceLineModel", "isLet", "(II)Z"⟩, 67) := ⟨⟨by decide +kernel, by decide +kernel⟩, List.mem_of_getElem? (i := 1189) (by decide +kernel), List.mem_of_getElem? (i := 1654) (by decide +kernel), List.mem_of_getElem? (i := 1655) (by decide +kernel)⟩
theorem lw_p71 : lw_okq (⟨"TruceLineModel", "knows", "(IIII)Z"⟩, 67) := ⟨⟨by decide +kernel, by decide +kernel⟩, List.mem_of_getElem? (i := 1189) (by decide +kernel), List.mem_of_getElem? (i := 1658) (by decide +kernel), List.mem_of_getElem? (i := 1659) (by decide +kernel)⟩
theorem lw_p72 : lw_okq (⟨"TruceLineModel", "loud", "(I)I"⟩, 67) := ⟨⟨by decide +kernel, by decide +kernel⟩, List.mem_of_getElem? (i := 1189) (by decide +kernel), List.mem_of_getElem? (i := 1662) (by decide +kernel), List.mem_of_getElem? (i := 1663) (by decide +kernel)⟩
theorem lw_p73 : lw_okq (⟨"TruceLineModel", "worstOf", "(IIII)I"⟩, 67) := ⟨⟨by decide +kernel, by decide +kernel⟩, List.mem_of_getElem? (i := 1189) (by decide +kernel), List.mem_of_getElem? (i := 1675) (by decide +kernel), List.mem_of_getElem? (i := 1676) (by decide +kernel)⟩
theorem lw_p74 : lw_okq (⟨"TruceLineModel", "canShoot", "(II)Z"⟩, 67) := ⟨⟨by decide +kernel, by decide +kernel⟩, List.mem_of_getElem? (i := 1189) (by decide +kernel), List.mem_of_getElem? (i := 1699) (by decide +kernel), List.mem_of_getElem? (i := 1700) (by decide +kernel)⟩
theorem lw_p75 : lw_okq (⟨"TruceLineModel", "shooting", "(IIII)I"⟩, 67) := ⟨⟨by decide +kernel, by decide +kernel⟩, List.mem_of_getElem? (i := 1189) (by decide +kernel), List.mem_of_getElem? (i := 1703) (by decide +kernel), List.mem_of_getElem? (i := 1704) (by decide +kernel)⟩
theorem lw_p76 : lw_okq (⟨"TruceLineModel", "ones", "(I)I"⟩, 67) := ⟨⟨by decide +kernel, by decide +kernel⟩, List.mem_of_getElem? (i := 1189) (by decide +kernel), List.mem_of_getElem? (i := 1711) (by decide +kernel), List.mem_of_getElem? (i := 1712) (by decide +kernel)⟩
theorem lw_p77 : lw_okq (⟨"TruceLineModel", "coveredBy", "(I)I"⟩, 67) := ⟨⟨by decide +kernel, by decide +kernel⟩, List.mem_of_getElem? (i := 1189) (by decide +kernel), List.mem_of_getElem? (i := 1723) (by decide +kernel), List.mem_of_getElem? (i := 1724) (by decide +kernel)⟩
theorem lw_p78 : lw_okq (⟨"TruceLineModel", "bitsOf", "(J)I"⟩, 67) := ⟨⟨by decide +kernel, by decide +kernel⟩, List.mem_of_getElem? (i := 1189) (by decide +kernel), List.mem_of_getElem? (i := 1727) (by decide +kernel), List.mem_of_getElem? (i := 1728) (by decide +kernel)⟩
theorem lw_p79 : lw_okq (⟨"TruceLineModel", "strengthOf", "(II)I"⟩, 67) := ⟨⟨by decide +kernel, by decide +kernel⟩, List.mem_of_getElem? (i := 1189) (by decide +kernel), List.mem_of_getElem? (i := 1735) (by decide +kernel), List.mem_of_getElem? (i := 1736) (by decide +kernel)⟩
def lw_privs_5 : List (MethodName × Nat) := [(⟨"TruceLineModel", "rank", "(I)I"⟩, 67), (⟨"TruceLineModel", "signOf", "()I"⟩, 67), (⟨"TruceLineModel", "ask", "(IIII)I"⟩, 67), (⟨"TruceLineModel", "work", "(II)I"⟩, 67), (⟨"TruceLineModel", "both", "(III)I"⟩, 67), (⟨"TruceLineModel", "isDoing", "(I)Z"⟩, 67), (⟨"TruceLineModel", "isLet", "(II)Z"⟩, 67), (⟨"TruceLineModel", "knows", "(IIII)Z"⟩, 67), (⟨"TruceLineModel", "loud", "(I)I"⟩, 67), (⟨"TruceLineModel", "worstOf", "(IIII)I"⟩, 67), (⟨"TruceLineModel", "canShoot", "(II)Z"⟩, 67), (⟨"TruceLineModel", "shooting", "(IIII)I"⟩, 67), (⟨"TruceLineModel", "ones", "(I)I"⟩, 67), (⟨"TruceLineModel", "coveredBy", "(I)I"⟩, 67), (⟨"TruceLineModel", "bitsOf", "(J)I"⟩, 67), (⟨"TruceLineModel", "strengthOf", "(II)I"⟩, 67)]
theorem lw_r5 : ∀ q ∈ lw_privs_5, lw_okq q := List.forall_mem_cons.mpr ⟨lw_p64, List.forall_mem_cons.mpr ⟨lw_p65, List.forall_mem_cons.mpr ⟨lw_p66, List.forall_mem_cons.mpr ⟨lw_p67, List.forall_mem_cons.mpr ⟨lw_p68, List.forall_mem_cons.mpr ⟨lw_p69, List.forall_mem_cons.mpr ⟨lw_p70, List.forall_mem_cons.mpr ⟨lw_p71, List.forall_mem_cons.mpr ⟨lw_p72, List.forall_mem_cons.mpr ⟨lw_p73, List.forall_mem_cons.mpr ⟨lw_p74, List.forall_mem_cons.mpr ⟨lw_p75, List.forall_mem_cons.mpr ⟨lw_p76, List.forall_mem_cons.mpr ⟨lw_p77, List.forall_mem_cons.mpr ⟨lw_p78, List.forall_mem_cons.mpr ⟨lw_p79, fun _ h => absurd h List.not_mem_nil⟩⟩⟩⟩⟩⟩⟩⟩⟩⟩⟩⟩⟩⟩⟩⟩
theorem lw_p80 : lw_okq (⟨"TruceLineModel", "marksOf", "(I)I"⟩, 67) := ⟨⟨by decide +kernel, by decide +kernel⟩, List.mem_of_getElem? (i := 1189) (by decide +kernel), List.mem_of_getElem? (i := 1743) (by decide +kernel), List.mem_of_getElem? (i := 1744) (by decide +kernel)⟩
theorem lw_p81 : lw_okq (⟨"TruceLineModel", "isSheet", "(I)Z"⟩, 67) := ⟨⟨by decide +kernel, by decide +kernel⟩, List.mem_of_getElem? (i := 1189) (by decide +kernel), List.mem_of_getElem? (i := 1780) (by decide +kernel), List.mem_of_getElem? (i := 1781) (by decide +kernel)⟩
def lw_privs_6 : List (MethodName × Nat) := [(⟨"TruceLineModel", "marksOf", "(I)I"⟩, 67), (⟨"TruceLineModel", "isSheet", "(I)Z"⟩, 67)]
theorem lw_r6 : ∀ q ∈ lw_privs_6, lw_okq q := List.forall_mem_cons.mpr ⟨lw_p80, List.forall_mem_cons.mpr ⟨lw_p81, fun _ h => absurd h List.not_mem_nil⟩⟩
def lw_privs : List (MethodName × Nat) := lw_privs_1 ++ (lw_privs_2 ++ (lw_privs_3 ++ (lw_privs_4 ++ (lw_privs_5 ++ (lw_privs_6)))))
def lw_tbl : List Cond := k2_sels lw_privs ++ tables_1
theorem lw_privs_ok : ∀ q ∈ lw_privs, lw_okq q := by
  show ∀ q ∈ lw_privs_1 ++ (lw_privs_2 ++ (lw_privs_3 ++ (lw_privs_4 ++ (lw_privs_5 ++ (lw_privs_6))))), lw_okq q
  exact List.forall_mem_append.mpr ⟨lw_r1, List.forall_mem_append.mpr ⟨lw_r2, List.forall_mem_append.mpr ⟨lw_r3, List.forall_mem_append.mpr ⟨lw_r4, List.forall_mem_append.mpr ⟨lw_r5, lw_r6⟩⟩⟩⟩⟩
def va_AOA (ty : FieldType) (U : State) : Prop := (Cond.arrayOver (.array ty)).before #[] U = true
theorem va_AOA.of {ty : FieldType} {A : Array Value} {U : State} (h : (Cond.arrayOver (.array ty)).before A U = true) : va_AOA ty U := h
theorem va_AOA.use {ty : FieldType} {A : Array Value} {U : State} (h : va_AOA ty U) : (Cond.arrayOver (.array ty)).before A U = true := h
/-! ===== BEGIN words of one list among another's, by their places ===== -/
theorem goodIn_r {big : List Cond} (ws : List Cond) (ps : List Nat) (hp : ws = ps.filterMap (fun i => big[i]?)) (h : ws.all goodWord = true) : GoodIn big ws := by
  intro w hw
  have h1 := List.all_eq_true.mp h w hw
  rw [hp] at hw
  obtain ⟨i, -, hi⟩ := List.mem_filterMap.mp hw
  have hm : w ∈ big := by first | exact List.mem_of_getElem? hi | exact List.getElem?_mem hi
  exact ⟨hm, good_of_word h1⟩
theorem goodIn_app {big a b : List Cond} (ha : GoodIn big a) (hb : GoodIn big b) : GoodIn big (a ++ b) := fun w h => (List.mem_append.mp h).elim (ha w) (hb w)
theorem goodIn_ca {big a b : List Cond} {c : Cond} (ha : GoodIn big (c :: a)) (hb : GoodIn big b) : GoodIn big (c :: (a ++ b)) := fun w h => (List.mem_cons.mp h).elim (fun e => ha w (List.mem_cons.mpr (Or.inl e))) (fun h => (List.mem_append.mp h).elim (fun h => ha w (List.mem_cons.mpr (Or.inr h))) (hb w))
theorem goodIn_sub {big ws : List Cond} (hm : ∀ w ∈ ws, w ∈ big) (h : ws.all goodWord = true) : GoodIn big ws := fun w hw => ⟨hm w hw, good_of_word (List.all_eq_true.mp h w hw)⟩
/-! ===== END ===== -/

/-! ===== BEGIN new T[n][m]: the outer array a place, the inner ones among the pooled ===== -/
/-- f, but v at every address of l -/
def vr_up {α : Type} (f : Nat → α) (l : List Nat) (v : α) : Nat → α := fun a => if a ∈ l then v else f a
theorem vr_up_in {α : Type} {f : Nat → α} {l : List Nat} {v : α} {a : Nat} (h : a ∈ l) : vr_up f l v a = v := if_pos h
theorem vr_up_ne {α : Type} {f : Nat → α} {l : List Nat} {v : α} {a : Nat} (h : a ∉ l) : vr_up f l v a = f a := if_neg h
theorem vr_rows {L l : List Nat} {f : Nat → va_E} {e : va_E} (h : ∀ a, a ∈ l → a ∉ L) : va_pl L f ++ l.map (fun a => (a, e)) = va_pl (L ++ l) (vr_up f l e) := by
  unfold va_pl
  rw [List.map_append]
  congr 1
  · apply List.map_congr_left
    intro a ha
    rw [vr_up_ne (fun q => h a q ha)]
  · apply List.map_congr_left
    intro a ha
    rw [vr_up_in ha]
theorem vr_lay {X rows : va_W} {x : Nat × va_E} {pl : va_W} {D : va_G} {cl : List vw_C} {H : Heap} (hP : va_P D cl (((X ++ pl) ++ [x]) ++ rows) H) : va_P D cl ((X ++ [x]) ++ (pl ++ rows)) H := by
  rw [List.append_assoc (X ++ pl)] at hP
  have h := va_P.swap hP
  rw [← List.append_assoc X] at h
  have h2 := va_P.swap h
  rw [List.append_assoc (X ++ [x])] at h2
  exact h2
theorem vr_layD {X rows : va_W} {x : Nat × va_E} {pl : va_W} {A : Nat → Prop} (hD : va_D A (((X ++ pl) ++ [x]) ++ rows)) : va_D A ((X ++ [x]) ++ (pl ++ rows)) := by
  rw [List.append_assoc (X ++ pl)] at hD
  have h := va_D.swap hD
  rw [← List.append_assoc X] at h
  have h2 := va_D.swap h
  rw [List.append_assoc (X ++ [x])] at h2
  exact h2
theorem vr_outer (c : ClassId) (N h0 : Nat) : ∀ i : Nat, Jvm.Free.Multi.outerC c N h0 i = arrV c N (fun j => va_rf (if j < i then some (h0 + 1 + j) else none))
  | 0 => by
    show ({ cls := c, slots := Array.replicate N .null, vm := .none } : Cell) = _
    rw [arrV_new]
    refine congrArg (arrV c N) (funext fun j => ?_)
    simp [va_rf]
  | i + 1 => by
    show (Jvm.Free.Multi.outerC c N h0 i).setSlot i (.ref (h0 + 1 + i)) = _
    rw [vr_outer c N h0 i, arrV_store]
    refine congrArg (arrV c N) (funext fun j => ?_)
    by_cases e : j = i
    · subst e
      simp [updV, va_rf]
    · by_cases h : j < i
      · simp [updV, e, h, Nat.lt_succ_of_lt h]
      · simp [updV, e, h, show ¬ j < i + 1 by omega]
section VGM
variable {p : Program} {l : Launch} {e : Env} {R : Room} {s : State} {m : MethodId} {args : Array Value} {below : List Frame} {meth : Method} {c : Code} {H : Heap} {locs : List Loc} {cells slots : Nat} {Q : State → Prop}
variable {cc : ByteArray} {pc : Nat} {ls : Array Slot} {rest : List Value} {D : va_G} {cl : List vw_C} {A : Nat → Prop} {a : Nat} {tys : List (ClassId × FieldType)} {ws : va_W} {H0 : Heap}
theorem va_mna {X : va_W} {L : List Nat} {f : Nat → va_E} {cc : ByteArray} (hexec : p.tables.exec = Jvm.exec) (hb : c.code = cc) {own : String} {index : Nat} {ty : FieldType} {cy : ClassId} (hown : s.vm.findClass own = some m.cls) (hclink : (Cond.classLink own index ("[" ++ (FieldType.array ty).toString)).before args s = true) (hover : va_AOA ty s) (harr : (Cond.arrayClass ty).before args s = true) (hcy : s.vm.findClass (FieldType.array ty).toString = some cy)
    (hK : va_K D cl tys s) (hP : va_P D cl (X ++ va_pl L f) H) (hD : va_D A (X ++ va_pl L f)) (hS : va_S A H0 H locs) (hA : ∀ q, H0.size ≤ q → A q) {n k : Int32} {N' K' : Nat} {z : vp_A} (hn : ¬ n < 0) (hk : ¬ k < 0) (hN : n.toNatClampNeg = N') (hM : k.toNatClampNeg = K')
    (hb1 : N' * 4 ≤ 536870912) (hb2 : K' * componentBytes ty ≤ 536870912) (hb3 : K' ≤ 536870912) (hdf : fits ty (defaultValue ty) = true) (hdd : (defaultValue ty).isDefault = true) (hcells : cells + (1 + N') ≤ R.cells) (hslots : slots + (N' + N' * K') ≤ R.slots) (hz : ∀ c : ClassId, Jvm.Free.Multi.innerC c K' (defaultValue ty) = vp_cell c z) (hdg : decode cc pc = .ok (.multianewarray index 2, 4))
    (kk : ∀ (q : Nat) (r : Nat → Nat) (cA : ClassId) (H1 : Heap), (∀ i j : Nat, i < N' → j < N' → r i = r j → i = j) → (∀ i : Nat, i < N' → r i ∉ L) → va_K D cl (tys ++ [(cA, .array ty)]) s →
      va_P D cl ((X ++ [(q, .inl (cA, N', .inr (.inr (.inr (.inr (fun i => if i < N' then some (r i) else none))))))]) ++ va_pl (L ++ (List.range N').map r) (vr_up f ((List.range N').map r) (.inl (cy, z)))) H1 → va_D A ((X ++ [(q, .inl (cA, N', .inr (.inr (.inr (.inr (fun i => if i < N' then some (r i) else none))))))]) ++ va_pl (L ++ (List.range N').map r) (vr_up f ((List.range N').map r) (.inl (cy, z)))) → va_S A H0 H1 locs →
      W p l e R s m args below meth c H1 locs (cells + 1 + N') (slots + N' + N' * K') Q (F0 m (pc + 4) ls (.ref q :: rest))) : W p l e R s m args below meth c H locs cells slots Q (F0 m pc ls (.int k :: .int n :: rest)) := by
  subst hN
  subst hM
  intro T hT Xs
  obtain ⟨vm₁, cA, comp, -, fA, fC, hO, -, X', step⟩ := Xs.multianewarray2F hexec hown hclink (va_AOA.use hover) harr (g := F0 m pc ls (.int k :: .int n :: rest)) rfl (by rw [hb]; exact hdg) rfl hn hk hb1 hb2 hb3 hdf hdd hcells hslots
  have ec : some cy = some comp := hcy.symm.trans fC
  cases ec
  generalize hF : Jvm.Free.Multi.fill (T.setVm vm₁) cA cy n.toNatClampNeg k.toNatClampNeg (defaultValue ty) n.toNatClampNeg = F at X' step
  have hTh : (T.setVm vm₁).heap = H := hT
  obtain ⟨f1, f2, -, -⟩ := Jvm.Free.Multi.fill_facts (T.setVm vm₁) cA cy n.toNatClampNeg k.toNatClampNeg (defaultValue ty) n.toNatClampNeg
  rw [hF, hTh] at f1 f2
  have hold : ∀ x : Nat, x < H.size → F.heap[x]? = H[x]? := fun x hx => by
    have := Jvm.Free.Multi.fill_old (T.setVm vm₁) cA cy n.toNatClampNeg k.toNatClampNeg (defaultValue ty) (a := x) (by rw [hTh]; exact hx) n.toNatClampNeg
    rw [hF, hTh] at this
    exact this
  have hrow : ∀ j : Nat, j < n.toNatClampNeg → F.heap[H.size + 1 + j]? = some (vp_cell cy z) := fun j hj => by
    have := Jvm.Free.Multi.fill_inner (T.setVm vm₁) cA cy n.toNatClampNeg k.toNatClampNeg (defaultValue ty) n.toNatClampNeg j hj
    rw [hF, hTh, hz] at this
    exact this
  have hout : Jvm.Free.Multi.outerC cA n.toNatClampNeg H.size n.toNatClampNeg = vp_cell cA (n.toNatClampNeg, .inr (.inr (.inr (.inr (fun i => if i < n.toNatClampNeg then some (H.size + 1 + i) else none))))) := by
    rw [vp_cell_q]
    exact vr_outer cA n.toNatClampNeg H.size n.toNatClampNeg
  rw [hout] at f2
  have hlt : ∀ a, a ∈ L → a < H.size := fun a ha => by
    obtain ⟨k9, hk9⟩ := va_pl_get (X := X) (f := f) ha
    exact (hP k9 _ hk9).lt
  have hnl : ∀ i : Nat, i < n.toNatClampNeg → H.size + 1 + i ∉ L := fun i _ h => by
    have := hlt _ h
    omega
  have hnm : ∀ a, a ∈ (List.range n.toNatClampNeg).map (fun i => H.size + 1 + i) → a ∉ L := fun a ha h => by
    obtain ⟨i, -, rfl⟩ := List.mem_map.mp ha
    have := hlt _ h
    omega
  have hP0 : va_P D cl (X ++ va_pl L f) F.heap := hP.kept (fun k9 x hx => hold x.1 ((hP k9 x hx).lt))
  have hP1 : va_P D cl ((X ++ va_pl L f) ++ [(H.size, .inl (cA, n.toNatClampNeg, .inr (.inr (.inr (.inr (fun i => if i < n.toNatClampNeg then some (H.size + 1 + i) else none))))))]) F.heap := hP0.app (fun k9 x hx => by
    have h0 : k9 < 1 := (List.getElem?_eq_some_iff.mp hx).1
    rw [show k9 = 0 by omega] at hx
    cases hx
    exact f2)
  have hP2 : va_P D cl (((X ++ va_pl L f) ++ [(H.size, .inl (cA, n.toNatClampNeg, .inr (.inr (.inr (.inr (fun i => if i < n.toNatClampNeg then some (H.size + 1 + i) else none))))))]) ++ ((List.range n.toNatClampNeg).map (fun i => H.size + 1 + i)).map (fun a => (a, .inl (cy, z)))) F.heap := hP1.app (fun k9 x hx => by
    obtain ⟨a, ha, rfl⟩ := List.mem_map.mp (List.mem_of_getElem? hx)
    obtain ⟨i, hi, rfl⟩ := List.mem_map.mp ha
    exact hrow i (List.mem_range.mp hi))
  have hD2 : va_D A (((X ++ va_pl L f) ++ [(H.size, .inl (cA, n.toNatClampNeg, .inr (.inr (.inr (.inr (fun i => if i < n.toNatClampNeg then some (H.size + 1 + i) else none))))))]) ++ ((List.range n.toNatClampNeg).map (fun i => H.size + 1 + i)).map (fun a => (a, .inl (cy, z)))) := by
    have hD1 := hD.push (e := .inl (cA, n.toNatClampNeg, .inr (.inr (.inr (.inr (fun i => if i < n.toNatClampNeg then some (H.size + 1 + i) else none)))))) hP rfl (hA _ hS.1)
    generalize hW1 : (X ++ va_pl L f) ++ [(H.size, .inl (cA, n.toNatClampNeg, .inr (.inr (.inr (.inr (fun i => if i < n.toNatClampNeg then some (H.size + 1 + i) else none))))))] = W1 at hD1 hP1 ⊢
    have hle : ∀ (k9 : Nat) (x : Nat × va_E), W1[k9]? = some x → x.1 ≤ H.size := fun k9 x hx => by
      rw [← hW1] at hx
      by_cases hl : k9 < (X ++ va_pl L f).length
      · rw [List.getElem?_append_left hl] at hx
        exact Nat.le_of_lt ((hP k9 x hx).lt)
      · rw [List.getElem?_append_right (by omega)] at hx
        have h0 : k9 - (X ++ va_pl L f).length < 1 := (List.getElem?_eq_some_iff.mp hx).1
        rw [show k9 - (X ++ va_pl L f).length = 0 by omega] at hx
        cases hx
        exact Nat.le_refl _
    have hr : ∀ (k9 : Nat) (x : Nat × va_E), (((List.range n.toNatClampNeg).map (fun i => H.size + 1 + i)).map (fun a => ((a, .inl (cy, z)) : Nat × va_E)))[k9]? = some x → x.1 = H.size + 1 + k9 := fun k9 x hx => by
      rw [List.getElem?_map, List.getElem?_map] at hx
      by_cases h9 : k9 < n.toNatClampNeg
      · rw [List.getElem?_range h9] at hx
        cases hx
        rfl
      · have hn0 : (List.range n.toNatClampNeg)[k9]? = none := List.getElem?_eq_none (by rw [List.length_range]; omega)
        rw [hn0] at hx
        cases hx
    refine ⟨fun i j x y hi hj hxy => ?_, fun k9 x hx => ?_⟩
    · by_cases h1 : i < W1.length <;> by_cases h2 : j < W1.length
      · rw [List.getElem?_append_left h1] at hi
        rw [List.getElem?_append_left h2] at hj
        exact hD1.1 i j x y hi hj hxy
      · rw [List.getElem?_append_left h1] at hi
        rw [List.getElem?_append_right (by omega)] at hj
        have := hle _ _ hi
        have := hr _ _ hj
        omega
      · rw [List.getElem?_append_right (by omega)] at hi
        rw [List.getElem?_append_left h2] at hj
        have := hle _ _ hj
        have := hr _ _ hi
        omega
      · rw [List.getElem?_append_right (by omega)] at hi hj
        have := hr _ _ hi
        have := hr _ _ hj
        omega
    · by_cases h1 : k9 < W1.length
      · rw [List.getElem?_append_left h1] at hx
        exact hD1.2 k9 x hx
      · rw [List.getElem?_append_right (by omega)] at hx
        have := hr _ _ hx
        exact hA _ (by have := hS.1; omega)
  have hAr : ArrOfT s cA (.array ty) := fun N9 z9 => by
    obtain ⟨-, k9, hk9, cm9, hkk9⟩ := (hO 0 0 0).1
    exact ⟨(fun q hq => by cases hq), k9, hk9, cm9, hkk9⟩
  have hK2 : va_K D cl (tys ++ [(cA, .array ty)]) s := ⟨hK.1, fun k9 x hx => by
    by_cases hl : k9 < tys.length
    · rw [List.getElem?_append_left hl] at hx
      exact hK.2 k9 x hx
    · rw [List.getElem?_append_right (by omega)] at hx
      have h0 : k9 - tys.length < 1 := (List.getElem?_eq_some_iff.mp hx).1
      rw [show k9 - tys.length = 0 by omega] at hx
      cases hx
      exact ⟨hAr, fA⟩⟩
  obtain ⟨t, a1, b1⟩ := kk H.size (fun i => H.size + 1 + i) cA F.heap (fun i j _ _ h => by have h9 : H.size + 1 + i = H.size + 1 + j := h; omega) hnl hK2 (by rw [← vr_rows hnm]; exact vr_lay hP2) (by rw [← vr_rows hnm]; exact vr_layD hD2) ⟨by rw [f1]; have := hS.1; omega, fun x h1 h2 => (hold x (Nat.lt_of_lt_of_le h1 hS.1)).trans (hS.2.1 x h1 h2), hS.2.2⟩ F rfl X'
  refine ⟨t, step t ?_, b1⟩
  have e : T.heap.size = H.size := by rw [hT]
  rw [e]
  exact a1
end VGM
/-! ===== END ===== -/

/-! ===== BEGIN printed: names, fields, word lists, decode rows ===== -/
def RX0 : String := "TruceLine$Incidents"
def TX0 : u_T := fun k => match k with
  | 0 => ("TruceLine$Incidents", "doings", "I", false)
  | 1 => ("TruceLine$Incidents", "reports", "I", false)
  | 2 => ("TruceLine$Incidents", "findings", "I", false)
  | 3 => ("TruceLine$Incidents", "marks", "LTruceLine$Marks;", true)
  | 4 => ("TruceLine$Incidents", "sortOf", "[I", true)
  | 5 => ("TruceLine$Incidents", "cellOf", "[I", true)
  | 6 => ("TruceLine$Incidents", "hourOf", "[I", true)
  | 7 => ("TruceLine$Incidents", "teller", "[I", true)
  | 8 => ("TruceLine$Incidents", "hourTold", "[I", true)
  | 9 => ("TruceLine$Incidents", "howTold", "[I", true)
  | 10 => ("TruceLine$Incidents", "yesTold", "[Z", true)
  | 11 => ("TruceLine$Incidents", "takenBack", "I", false)
  | 12 => ("TruceLine$Incidents", "doingSaid", "[I", true)
  | 13 => ("TruceLine$Incidents", "leanReports", "[I", true)
  | _ => ("TruceLine$Incidents", "leanFindings", "[I", true)
def tyX0 : Nat → FieldType := fun k => match k with
  | 0 => .int
  | 1 => .int
  | 2 => .int
  | 3 => .object "TruceLine$Marks"
  | 4 => .array .int
  | 5 => .array .int
  | 6 => .array .int
  | 7 => .array .int
  | 8 => .array .int
  | 9 => .array .int
  | 10 => .array .boolean
  | 11 => .int
  | 12 => .array .int
  | 13 => .array .int
  | _ => .array .int
abbrev wsX00 : List Cond := u_ws RX0 TX0 15
theorem nmX0 : ∀ a, a < 15 → ∀ b, b < 15 → a ≠ b → (TX0 a).2.1 ≠ (TX0 b).2.1 := by decide +kernel
theorem tyX0_ok : ∀ k, k < 15 → parseFieldDescriptor (TX0 k).2.2.1 = some (tyX0 k) := by decide +kernel
abbrev cX0_init : ByteArray := prog_2_method_1_code
def yX0_init : MethodName := ⟨RX0, "<init>", "(LTruceLine$Marks;)V"⟩
abbrev cX0_addDoing : ByteArray := prog_2_method_2_code
def yX0_addDoing : MethodName := ⟨RX0, "addDoing", "(III)I"⟩
abbrev cX0_addReport : ByteArray := prog_2_method_3_code
def yX0_addReport : MethodName := ⟨RX0, "addReport", "(IIIZ)I"⟩
abbrev cX0_addFinding : ByteArray := prog_2_method_4_code
def yX0_addFinding : MethodName := ⟨RX0, "addFinding", "(III)I"⟩
abbrev cX0_takeReportBack : ByteArray := prog_2_method_5_code
def yX0_takeReportBack : MethodName := ⟨RX0, "takeReportBack", "(I)I"⟩
abbrev cX0_isLet : ByteArray := prog_2_method_6_code
def yX0_isLet : MethodName := ⟨RX0, "isLet", "(II)Z"⟩
abbrev cX0_allLeft : ByteArray := prog_2_method_7_code
def yX0_allLeft : MethodName := ⟨RX0, "allLeft", "()I"⟩
abbrev cX0_worstOf : ByteArray := prog_2_method_8_code
def yX0_worstOf : MethodName := ⟨RX0, "worstOf", "(IIII)I"⟩
abbrev cX0_bestLook : ByteArray := prog_2_method_9_code
def yX0_bestLook : MethodName := ⟨RX0, "bestLook", "(II)I"⟩
abbrev cX0_allStanding : ByteArray := prog_2_method_10_code
def yX0_allStanding : MethodName := ⟨RX0, "allStanding", "()I"⟩
abbrev cX0_isLetByAll : ByteArray := prog_2_method_11_code
def yX0_isLetByAll : MethodName := ⟨RX0, "isLetByAll", "(II)Z"⟩
abbrev cX0_isNoticed : ByteArray := prog_2_method_12_code
def yX0_isNoticed : MethodName := ⟨RX0, "isNoticed", "(IIII)Z"⟩
def RX1 : String := "TruceLine$Law"
def TX1 : u_T := fun k => match k with
  | 0 => ("TruceLine$Law", "zone", "LTruceLine$Zone;", true)
  | 1 => ("TruceLine$Law", "marks", "LTruceLine$Marks;", true)
  | 2 => ("TruceLine$Law", "texts", "LTruceLine$Texts;", true)
  | _ => ("TruceLine$Law", "names", "[I", true)
def tyX1 : Nat → FieldType := fun k => match k with
  | 0 => .object "TruceLine$Zone"
  | 1 => .object "TruceLine$Marks"
  | 2 => .object "TruceLine$Texts"
  | _ => .array .int
abbrev wsX10 : List Cond := u_ws RX1 TX1 4
theorem nmX1 : ∀ a, a < 4 → ∀ b, b < 4 → a ≠ b → (TX1 a).2.1 ≠ (TX1 b).2.1 := by decide +kernel
theorem tyX1_ok : ∀ k, k < 4 → parseFieldDescriptor (TX1 k).2.2.1 = some (tyX1 k) := by decide +kernel
abbrev cX1_init : ByteArray := prog_3_method_1_code
def yX1_init : MethodName := ⟨RX1, "<init>", "(LTruceLine$Zone;LTruceLine$Marks;LTruceLine$Texts;)V"⟩
abbrev cX1_valueOf : ByteArray := prog_3_method_2_code
def yX1_valueOf : MethodName := ⟨RX1, "valueOf", "(IIII)I"⟩
abbrev cX1_allBreaches : ByteArray := prog_3_method_3_code
def yX1_allBreaches : MethodName := ⟨RX1, "allBreaches", "(I)I"⟩
abbrev cX1_knownBreaches : ByteArray := prog_3_method_4_code
def yX1_knownBreaches : MethodName := ⟨RX1, "knownBreaches", "(II)I"⟩
abbrev cX1_allAstray : ByteArray := prog_3_method_5_code
def yX1_allAstray : MethodName := ⟨RX1, "allAstray", "(I)I"⟩
abbrev cX1_tellName : ByteArray := prog_3_method_6_code
def yX1_tellName : MethodName := ⟨RX1, "tellName", "(II)V"⟩
abbrev cX1_signedFar : ByteArray := prog_3_method_7_code
def yX1_signedFar : MethodName := ⟨RX1, "signedFar", "(LTruceLine$Mark;I)I"⟩
abbrev cX1_isOnOtherSide : ByteArray := prog_3_method_8_code
def yX1_isOnOtherSide : MethodName := ⟨RX1, "isOnOtherSide", "(LTruceLine$Mark;I)Z"⟩
def RX2 : String := "TruceLine$Mark"
def TX2 : u_T := fun k => match k with
  | 0 => ("TruceLine$Mark", "kind", "I", false)
  | 1 => ("TruceLine$Mark", "side", "I", false)
  | 2 => ("TruceLine$Mark", "size", "I", false)
  | 3 => ("TruceLine$Mark", "ear", "I", false)
  | 4 => ("TruceLine$Mark", "isGone", "Z", false)
  | 5 => ("TruceLine$Mark", "isHeld", "Z", false)
  | 6 => ("TruceLine$Mark", "home", "I", false)
  | 7 => ("TruceLine$Mark", "steps", "[I", true)
  | _ => ("TruceLine$Mark", "stepCount", "I", false)
def tyX2 : Nat → FieldType := fun k => match k with
  | 0 => .int
  | 1 => .int
  | 2 => .int
  | 3 => .int
  | 4 => .boolean
  | 5 => .boolean
  | 6 => .int
  | 7 => .array .int
  | _ => .int
abbrev wsX20 : List Cond := u_ws RX2 TX2 9
theorem nmX2 : ∀ a, a < 9 → ∀ b, b < 9 → a ≠ b → (TX2 a).2.1 ≠ (TX2 b).2.1 := by decide +kernel
theorem tyX2_ok : ∀ k, k < 9 → parseFieldDescriptor (TX2 k).2.2.1 = some (tyX2 k) := by decide +kernel
abbrev cX2_init : ByteArray := prog_4_method_1_code
def yX2_init : MethodName := ⟨RX2, "<init>", "()V"⟩
abbrev cX2_isUnder : ByteArray := prog_4_method_2_code
def yX2_isUnder : MethodName := ⟨RX2, "isUnder", "(II)Z"⟩
abbrev cX2_sightOf : ByteArray := prog_4_method_3_code
def yX2_sightOf : MethodName := ⟨RX2, "sightOf", "(IIZ)I"⟩
abbrev cX2_become : ByteArray := prog_4_method_4_code
def yX2_become : MethodName := ⟨RX2, "become", "(IIII)V"⟩
abbrev cX2_walkBy : ByteArray := prog_4_method_5_code
def yX2_walkBy : MethodName := ⟨RX2, "walkBy", "(I)I"⟩
abbrev cX2_cellIn : ByteArray := prog_4_method_6_code
def yX2_cellIn : MethodName := ⟨RX2, "cellIn", "(I)I"⟩
def RX3 : String := "TruceLine$Marks"
def TX3 : u_T := fun k => match k with
  | 0 => ("TruceLine$Marks", "row", "[LTruceLine$Mark;", true)
  | 1 => ("TruceLine$Marks", "count", "I", false)
  | _ => ("TruceLine$Marks", "zone", "LTruceLine$Zone;", true)
def tyX3 : Nat → FieldType := fun k => match k with
  | 0 => .array (.object "TruceLine$Mark")
  | 1 => .int
  | _ => .object "TruceLine$Zone"
abbrev wsX30 : List Cond := u_ws RX3 TX3 3
theorem nmX3 : ∀ a, a < 3 → ∀ b, b < 3 → a ≠ b → (TX3 a).2.1 ≠ (TX3 b).2.1 := by decide +kernel
theorem tyX3_ok : ∀ k, k < 3 → parseFieldDescriptor (TX3 k).2.2.1 = some (tyX3 k) := by decide +kernel
abbrev cX3_init : ByteArray := prog_5_method_1_code
def yX3_init : MethodName := ⟨RX3, "<init>", "(LTruceLine$Zone;)V"⟩
abbrev cX3_add : ByteArray := prog_5_method_2_code
def yX3_add : MethodName := ⟨RX3, "add", "(IIII)I"⟩
abbrev cX3_has : ByteArray := prog_5_method_3_code
def yX3_has : MethodName := ⟨RX3, "has", "(I)Z"⟩
abbrev cX3_isOfArmy : ByteArray := prog_5_method_4_code
def yX3_isOfArmy : MethodName := ⟨RX3, "isOfArmy", "(I)Z"⟩
abbrev cX3_allHeld : ByteArray := prog_5_method_5_code
def yX3_allHeld : MethodName := ⟨RX3, "allHeld", "()I"⟩
abbrev cX3_sightIn : ByteArray := prog_5_method_6_code
def yX3_sightIn : MethodName := ⟨RX3, "sightIn", "(II)I"⟩
abbrev cX3_canSee : ByteArray := prog_5_method_7_code
def yX3_canSee : MethodName := ⟨RX3, "canSee", "(III)Z"⟩
abbrev cX3_seenBy : ByteArray := prog_5_method_8_code
def yX3_seenBy : MethodName := ⟨RX3, "seenBy", "(II)J"⟩
abbrev cX3_seenBySide : ByteArray := prog_5_method_9_code
def yX3_seenBySide : MethodName := ⟨RX3, "seenBySide", "(II)J"⟩
abbrev cX3_canHear : ByteArray := prog_5_method_10_code
def yX3_canHear : MethodName := ⟨RX3, "canHear", "(IIII)Z"⟩
def RX4 : String := "TruceLine$Papers"
def TX4 : u_T := fun k => match k with
  | 0 => ("TruceLine$Papers", "permits", "I", false)
  | 1 => ("TruceLine$Papers", "protests", "I", false)
  | 2 => ("TruceLine$Papers", "hourOf", "[I", true)
  | 3 => ("TruceLine$Papers", "lists", "[J", true)
  | 4 => ("TruceLine$Papers", "person", "[I", true)
  | 5 => ("TruceLine$Papers", "from", "[I", true)
  | 6 => ("TruceLine$Papers", "to", "[I", true)
  | 7 => ("TruceLine$Papers", "since", "[I", true)
  | 8 => ("TruceLine$Papers", "until", "[I", true)
  | 9 => ("TruceLine$Papers", "sideOf", "[I", true)
  | 10 => ("TruceLine$Papers", "aboutOf", "[I", true)
  | _ => ("TruceLine$Papers", "answeredIn", "[I", true)
def tyX4 : Nat → FieldType := fun k => match k with
  | 0 => .int
  | 1 => .int
  | 2 => .array .int
  | 3 => .array .long
  | 4 => .array .int
  | 5 => .array .int
  | 6 => .array .int
  | 7 => .array .int
  | 8 => .array .int
  | 9 => .array .int
  | 10 => .array .int
  | _ => .array .int
abbrev wsX40 : List Cond := u_ws RX4 TX4 12
theorem nmX4 : ∀ a, a < 12 → ∀ b, b < 12 → a ≠ b → (TX4 a).2.1 ≠ (TX4 b).2.1 := by decide +kernel
theorem tyX4_ok : ∀ k, k < 12 → parseFieldDescriptor (TX4 k).2.2.1 = some (tyX4 k) := by decide +kernel
abbrev cX4_init : ByteArray := prog_6_method_1_code
def yX4_init : MethodName := ⟨RX4, "<init>", "()V"⟩
abbrev cX4_addPermit : ByteArray := prog_6_method_2_code
def yX4_addPermit : MethodName := ⟨RX4, "addPermit", "(IIIII)I"⟩
abbrev cX4_leastPermit : ByteArray := prog_6_method_3_code
def yX4_leastPermit : MethodName := ⟨RX4, "leastPermit", "(III)I"⟩
abbrev cX4_addProtest : ByteArray := prog_6_method_4_code
def yX4_addProtest : MethodName := ⟨RX4, "addProtest", "(III)I"⟩
abbrev cX4_hasProtest : ByteArray := prog_6_method_5_code
def yX4_hasProtest : MethodName := ⟨RX4, "hasProtest", "(I)Z"⟩
abbrev cX4_answerProtest : ByteArray := prog_6_method_6_code
def yX4_answerProtest : MethodName := ⟨RX4, "answerProtest", "(II)I"⟩
abbrev cX4_allLate : ByteArray := prog_6_method_7_code
def yX4_allLate : MethodName := ⟨RX4, "allLate", "(I)I"⟩
abbrev cX4_leastBlamer : ByteArray := prog_6_method_8_code
def yX4_leastBlamer : MethodName := ⟨RX4, "leastBlamer", "(I)I"⟩
abbrev cX4_putListed : ByteArray := prog_6_method_9_code
def yX4_putListed : MethodName := ⟨RX4, "putListed", "(IIZ)I"⟩
def RX5 : String := "TruceLine$Plans"
def TX5 : u_T := fun k => match k with
  | 0 => ("TruceLine$Plans", "listCount", "I", false)
  | 1 => ("TruceLine$Plans", "zone", "LTruceLine$Zone;", true)
  | 2 => ("TruceLine$Plans", "marks", "LTruceLine$Marks;", true)
  | 3 => ("TruceLine$Plans", "cells", "[I", true)
  | 4 => ("TruceLine$Plans", "seen", "[J", true)
  | 5 => ("TruceLine$Plans", "told", "[I", true)
  | 6 => ("TruceLine$Plans", "toldCount", "I", false)
  | _ => ("TruceLine$Plans", "isOpen", "[Z", true)
def tyX5 : Nat → FieldType := fun k => match k with
  | 0 => .int
  | 1 => .object "TruceLine$Zone"
  | 2 => .object "TruceLine$Marks"
  | 3 => .array .int
  | 4 => .array .long
  | 5 => .array .int
  | 6 => .int
  | _ => .array .boolean
abbrev wsX50 : List Cond := u_ws RX5 TX5 8
theorem nmX5 : ∀ a, a < 8 → ∀ b, b < 8 → a ≠ b → (TX5 a).2.1 ≠ (TX5 b).2.1 := by decide +kernel
theorem tyX5_ok : ∀ k, k < 8 → parseFieldDescriptor (TX5 k).2.2.1 = some (tyX5 k) := by decide +kernel
abbrev cX5_init : ByteArray := prog_7_method_1_code
def yX5_init : MethodName := ⟨RX5, "<init>", "(LTruceLine$Zone;LTruceLine$Marks;)V"⟩
abbrev cX5_addCell : ByteArray := prog_7_method_2_code
def yX5_addCell : MethodName := ⟨RX5, "addCell", "(I)I"⟩
abbrev cX5_bestPosts : ByteArray := prog_7_method_3_code
def yX5_bestPosts : MethodName := ⟨RX5, "bestPosts", "(II)I"⟩
abbrev cX5_seenFromAll : ByteArray := prog_7_method_4_code
def yX5_seenFromAll : MethodName := ⟨RX5, "seenFromAll", "(I)J"⟩
abbrev cX5_lookFromAll : ByteArray := prog_7_method_5_code
def yX5_lookFromAll : MethodName := ⟨RX5, "lookFromAll", "(I)V"⟩
abbrev cX5_strengthOf : ByteArray := prog_7_method_6_code
def yX5_strengthOf : MethodName := ⟨RX5, "strengthOf", "(I)I"⟩
abbrev cX5_canDraw : ByteArray := prog_7_method_7_code
def yX5_canDraw : MethodName := ⟨RX5, "canDraw", "(I)Z"⟩
abbrev cX5_drawnAt : ByteArray := prog_7_method_8_code
def yX5_drawnAt : MethodName := ⟨RX5, "drawnAt", "(III)I"⟩
abbrev cX5_isGunHere : ByteArray := prog_7_method_9_code
def yX5_isGunHere : MethodName := ⟨RX5, "isGunHere", "(I)Z"⟩
abbrev cX5_tellGuns : ByteArray := prog_7_method_10_code
def yX5_tellGuns : MethodName := ⟨RX5, "tellGuns", "(I)V"⟩
abbrev cX5_openSets : ByteArray := prog_7_method_11_code
def yX5_openSets : MethodName := ⟨RX5, "openSets", "(I)V"⟩
abbrev cX5_leadOf : ByteArray := prog_7_method_12_code
def yX5_leadOf : MethodName := ⟨RX5, "leadOf", "(I)I"⟩
abbrev cX5_nextDrawn : ByteArray := prog_7_method_13_code
def yX5_nextDrawn : MethodName := ⟨RX5, "nextDrawn", "(I)I"⟩
def RX6 : String := "TruceLine$Reader"
def TX6 : u_T := fun k => match k with
  | 0 => ("TruceLine$Reader", "tape", "[I", true)
  | 1 => ("TruceLine$Reader", "size", "I", false)
  | 2 => ("TruceLine$Reader", "tokens", "[I", true)
  | 3 => ("TruceLine$Reader", "places", "[I", true)
  | 4 => ("TruceLine$Reader", "tokenCount", "I", false)
  | 5 => ("TruceLine$Reader", "next", "I", false)
  | 6 => ("TruceLine$Reader", "fault", "I", false)
  | 7 => ("TruceLine$Reader", "code", "[I", false)
  | _ => ("TruceLine$Reader", "codeSize", "I", false)
def tyX6 : Nat → FieldType := fun k => match k with
  | 0 => .array .int
  | 1 => .int
  | 2 => .array .int
  | 3 => .array .int
  | 4 => .int
  | 5 => .int
  | 6 => .int
  | 7 => .array .int
  | _ => .int
abbrev wsX60 : List Cond := u_ws RX6 TX6 9
theorem nmX6 : ∀ a, a < 9 → ∀ b, b < 9 → a ≠ b → (TX6 a).2.1 ≠ (TX6 b).2.1 := by decide +kernel
theorem tyX6_ok : ∀ k, k < 9 → parseFieldDescriptor (TX6 k).2.2.1 = some (tyX6 k) := by decide +kernel
abbrev cX6_init : ByteArray := prog_8_method_1_code
def yX6_init : MethodName := ⟨RX6, "<init>", "([I[I)V"⟩
abbrev cX6_isName : ByteArray := prog_8_method_2_code
def yX6_isName : MethodName := ⟨RX6, "isName", "(I)Z"⟩
abbrev cX6_read : ByteArray := prog_8_method_3_code
def yX6_read : MethodName := ⟨RX6, "read", "(I[I[I)I"⟩
abbrev cX6_splitTape : ByteArray := prog_8_method_4_code
def yX6_splitTape : MethodName := ⟨RX6, "splitTape", "()V"⟩
abbrev cX6_endOf : ByteArray := prog_8_method_5_code
def yX6_endOf : MethodName := ⟨RX6, "endOf", "(I)I"⟩
abbrev cX6_tokenOf : ByteArray := prog_8_method_6_code
def yX6_tokenOf : MethodName := ⟨RX6, "tokenOf", "(II)I"⟩
abbrev cX6_wordOf : ByteArray := prog_8_method_7_code
def yX6_wordOf : MethodName := ⟨RX6, "wordOf", "(II)I"⟩
abbrev cX6_isSpelt : ByteArray := prog_8_method_8_code
def yX6_isSpelt : MethodName := ⟨RX6, "isSpelt", "(IILjava/lang/String;)Z"⟩
abbrev cX6_numberAt : ByteArray := prog_8_method_9_code
def yX6_numberAt : MethodName := ⟨RX6, "numberAt", "(I)I"⟩
abbrev cX6_isLetter : ByteArray := prog_8_method_10_code
def yX6_isLetter : MethodName := ⟨RX6, "isLetter", "(I)Z"⟩
abbrev cX6_isDigit : ByteArray := prog_8_method_11_code
def yX6_isDigit : MethodName := ⟨RX6, "isDigit", "(I)Z"⟩
abbrev cX6_readPart : ByteArray := prog_8_method_12_code
def yX6_readPart : MethodName := ⟨RX6, "readPart", "(I[I)V"⟩
abbrev cX6_readOr : ByteArray := prog_8_method_13_code
def yX6_readOr : MethodName := ⟨RX6, "readOr", "(I)V"⟩
abbrev cX6_readAnd : ByteArray := prog_8_method_14_code
def yX6_readAnd : MethodName := ⟨RX6, "readAnd", "(I)V"⟩
abbrev cX6_readNot : ByteArray := prog_8_method_15_code
def yX6_readNot : MethodName := ⟨RX6, "readNot", "(I)V"⟩
abbrev cX6_readComparison : ByteArray := prog_8_method_16_code
def yX6_readComparison : MethodName := ⟨RX6, "readComparison", "(I)V"⟩
abbrev cX6_readSum : ByteArray := prog_8_method_17_code
def yX6_readSum : MethodName := ⟨RX6, "readSum", "(I)V"⟩
abbrev cX6_readTerm : ByteArray := prog_8_method_18_code
def yX6_readTerm : MethodName := ⟨RX6, "readTerm", "(I)V"⟩
abbrev cX6_readOne : ByteArray := prog_8_method_19_code
def yX6_readOne : MethodName := ⟨RX6, "readOne", "(I)V"⟩
abbrev cX6_isNext : ByteArray := prog_8_method_20_code
def yX6_isNext : MethodName := ⟨RX6, "isNext", "(I)Z"⟩
abbrev cX6_expect : ByteArray := prog_8_method_21_code
def yX6_expect : MethodName := ⟨RX6, "expect", "(I)V"⟩
abbrev cX6_skipToken : ByteArray := prog_8_method_22_code
def yX6_skipToken : MethodName := ⟨RX6, "skipToken", "()V"⟩
abbrev cX6_fail : ByteArray := prog_8_method_23_code
def yX6_fail : MethodName := ⟨RX6, "fail", "()V"⟩
abbrev cX6_write : ByteArray := prog_8_method_24_code
def yX6_write : MethodName := ⟨RX6, "write", "(I)V"⟩
def RX7 : String := "TruceLine$Sheet"
def TX7 : u_T := fun k => match k with
  | 0 => ("TruceLine$Sheet", "sort", "I", false)
  | 1 => ("TruceLine$Sheet", "items", "[I", true)
  | _ => ("TruceLine$Sheet", "size", "I", false)
def tyX7 : Nat → FieldType := fun k => match k with
  | 0 => .int
  | 1 => .array .int
  | _ => .int
abbrev wsX70 : List Cond := u_ws RX7 TX7 3
theorem nmX7 : ∀ a, a < 3 → ∀ b, b < 3 → a ≠ b → (TX7 a).2.1 ≠ (TX7 b).2.1 := by decide +kernel
theorem tyX7_ok : ∀ k, k < 3 → parseFieldDescriptor (TX7 k).2.2.1 = some (tyX7 k) := by decide +kernel
abbrev cX7_init : ByteArray := prog_9_method_1_code
def yX7_init : MethodName := ⟨RX7, "<init>", "()V"⟩
abbrev cX7_isMissing : ByteArray := prog_9_method_2_code
def yX7_isMissing : MethodName := ⟨RX7, "isMissing", "()Z"⟩
abbrev cX7_has : ByteArray := prog_9_method_3_code
def yX7_has : MethodName := ⟨RX7, "has", "(I)Z"⟩
abbrev cX7_hasRun : ByteArray := prog_9_method_4_code
def yX7_hasRun : MethodName := ⟨RX7, "hasRun", "(II)Z"⟩
abbrev cX7_become : ByteArray := prog_9_method_5_code
def yX7_become : MethodName := ⟨RX7, "become", "(II)I"⟩
abbrev cX7_put : ByteArray := prog_9_method_6_code
def yX7_put : MethodName := ⟨RX7, "put", "(II)I"⟩
def RX8 : String := "TruceLine$Shooting"
def TX8 : u_T := fun k => match k with
  | 0 => ("TruceLine$Shooting", "marks", "LTruceLine$Marks;", true)
  | _ => ("TruceLine$Shooting", "law", "LTruceLine$Law;", true)
def tyX8 : Nat → FieldType := fun k => match k with
  | 0 => .object "TruceLine$Marks"
  | _ => .object "TruceLine$Law"
abbrev wsX80 : List Cond := u_ws RX8 TX8 2
theorem nmX8 : ∀ a, a < 2 → ∀ b, b < 2 → a ≠ b → (TX8 a).2.1 ≠ (TX8 b).2.1 := by decide +kernel
theorem tyX8_ok : ∀ k, k < 2 → parseFieldDescriptor (TX8 k).2.2.1 = some (tyX8 k) := by decide +kernel
abbrev cX8_init : ByteArray := prog_10_method_1_code
def yX8_init : MethodName := ⟨RX8, "<init>", "(LTruceLine$Marks;LTruceLine$Law;)V"⟩
abbrev cX8_shotsBehind : ByteArray := prog_10_method_2_code
def yX8_shotsBehind : MethodName := ⟨RX8, "shotsBehind", "(IIII)I"⟩
abbrev cX8_leastCalm : ByteArray := prog_10_method_3_code
def yX8_leastCalm : MethodName := ⟨RX8, "leastCalm", "(IIII)I"⟩
abbrev cX8_calledForth : ByteArray := prog_10_method_4_code
def yX8_calledForth : MethodName := ⟨RX8, "calledForth", "(III)I"⟩
abbrev cX8_heardBy : ByteArray := prog_10_method_5_code
def yX8_heardBy : MethodName := ⟨RX8, "heardBy", "(III)I"⟩
def RX9 : String := "TruceLine$Texts"
def TX9 : u_T := fun k => match k with
  | 0 => ("TruceLine$Texts", "forced", "[I", true)
  | 1 => ("TruceLine$Texts", "count", "I", false)
  | 2 => ("TruceLine$Texts", "tapeSize", "I", false)
  | 3 => ("TruceLine$Texts", "tape", "[I", true)
  | 4 => ("TruceLine$Texts", "codes", "[[I", true)
  | 5 => ("TruceLine$Texts", "stack", "[I", true)
  | _ => ("TruceLine$Texts", "reader", "LTruceLine$Reader;", true)
def tyX9 : Nat → FieldType := fun k => match k with
  | 0 => .array .int
  | 1 => .int
  | 2 => .int
  | 3 => .array .int
  | 4 => .array (.array .int)
  | 5 => .array .int
  | _ => .object "TruceLine$Reader"
abbrev wsX90 : List Cond := u_ws RX9 TX9 7
theorem nmX9 : ∀ a, a < 7 → ∀ b, b < 7 → a ≠ b → (TX9 a).2.1 ≠ (TX9 b).2.1 := by decide +kernel
theorem tyX9_ok : ∀ k, k < 7 → parseFieldDescriptor (TX9 k).2.2.1 = some (tyX9 k) := by decide +kernel
abbrev cX9_init : ByteArray := prog_11_method_1_code
def yX9_init : MethodName := ⟨RX9, "<init>", "()V"⟩
abbrev cX9_has : ByteArray := prog_11_method_2_code
def yX9_has : MethodName := ⟨RX9, "has", "(I)Z"⟩
abbrev cX9_feedTape : ByteArray := prog_11_method_3_code
def yX9_feedTape : MethodName := ⟨RX9, "feedTape", "(IJ)I"⟩
abbrev cX9_readTape : ByteArray := prog_11_method_4_code
def yX9_readTape : MethodName := ⟨RX9, "readTape", "()I"⟩
abbrev cX9_valueOf : ByteArray := prog_11_method_5_code
def yX9_valueOf : MethodName := ⟨RX9, "valueOf", "(II[I)I"⟩
abbrev cX9_ofOne : ByteArray := prog_11_method_6_code
def yX9_ofOne : MethodName := ⟨RX9, "ofOne", "(II)I"⟩
abbrev cX9_ofTwo : ByteArray := prog_11_method_7_code
def yX9_ofTwo : MethodName := ⟨RX9, "ofTwo", "(III)I"⟩
def RX10 : String := "TruceLine$Zone"
def TX10 : u_T := fun k => match k with
  | 0 => ("TruceLine$Zone", "heightOf", "[I", true)
  | 1 => ("TruceLine$Zone", "lineOf", "[I", true)
  | 2 => ("TruceLine$Zone", "width", "I", false)
  | _ => ("TruceLine$Zone", "mist", "I", false)
def tyX10 : Nat → FieldType := fun k => match k with
  | 0 => .array .int
  | 1 => .array .int
  | 2 => .int
  | _ => .int
abbrev wsX100 : List Cond := u_ws RX10 TX10 4
theorem nmX10 : ∀ a, a < 4 → ∀ b, b < 4 → a ≠ b → (TX10 a).2.1 ≠ (TX10 b).2.1 := by decide +kernel
theorem tyX10_ok : ∀ k, k < 4 → parseFieldDescriptor (TX10 k).2.2.1 = some (tyX10 k) := by decide +kernel
abbrev cX10_init : ByteArray := prog_12_method_1_code
def yX10_init : MethodName := ⟨RX10, "<init>", "()V"⟩
abbrev cX10_sideOf : ByteArray := prog_12_method_2_code
def yX10_sideOf : MethodName := ⟨RX10, "sideOf", "(I)I"⟩
abbrev cX10_farOf : ByteArray := prog_12_method_3_code
def yX10_farOf : MethodName := ⟨RX10, "farOf", "(I)I"⟩
abbrev cX10_isStrip : ByteArray := prog_12_method_4_code
def yX10_isStrip : MethodName := ⟨RX10, "isStrip", "(I)Z"⟩
abbrev cX10_sightFrom : ByteArray := prog_12_method_5_code
def yX10_sightFrom : MethodName := ⟨RX10, "sightFrom", "(III)I"⟩
abbrev cX10_canSee : ByteArray := prog_12_method_6_code
def yX10_canSee : MethodName := ⟨RX10, "canSee", "(III)Z"⟩
abbrev cX10_seenFrom : ByteArray := prog_12_method_7_code
def yX10_seenFrom : MethodName := ⟨RX10, "seenFrom", "(II)J"⟩
def RX11 : String := "TruceLine"
def TX11 : u_T := fun k => match k with
  | 0 => ("TruceLine", "zone", "LTruceLine$Zone;", true)
  | 1 => ("TruceLine", "marks", "LTruceLine$Marks;", true)
  | 2 => ("TruceLine", "texts", "LTruceLine$Texts;", true)
  | 3 => ("TruceLine", "law", "LTruceLine$Law;", true)
  | 4 => ("TruceLine", "incidents", "LTruceLine$Incidents;", true)
  | 5 => ("TruceLine", "shooting", "LTruceLine$Shooting;", true)
  | 6 => ("TruceLine", "plans", "LTruceLine$Plans;", true)
  | 7 => ("TruceLine", "papers", "LTruceLine$Papers;", true)
  | _ => ("TruceLine", "sheets", "[LTruceLine$Sheet;", true)
def tyX11 : Nat → FieldType := fun k => match k with
  | 0 => .object "TruceLine$Zone"
  | 1 => .object "TruceLine$Marks"
  | 2 => .object "TruceLine$Texts"
  | 3 => .object "TruceLine$Law"
  | 4 => .object "TruceLine$Incidents"
  | 5 => .object "TruceLine$Shooting"
  | 6 => .object "TruceLine$Plans"
  | 7 => .object "TruceLine$Papers"
  | _ => .array (.object "TruceLine$Sheet")
abbrev wsX110 : List Cond := u_ws RX11 TX11 9
theorem nmX11 : ∀ a, a < 9 → ∀ b, b < 9 → a ≠ b → (TX11 a).2.1 ≠ (TX11 b).2.1 := by decide +kernel
theorem tyX11_ok : ∀ k, k < 9 → parseFieldDescriptor (TX11 k).2.2.1 = some (tyX11 k) := by decide +kernel
abbrev cX11_init : ByteArray := prog_1_method_1_code
def yX11_init : MethodName := ⟨RX11, "<init>", "()V"⟩
abbrev cX11_height : ByteArray := prog_1_method_2_code
def yX11_height : MethodName := ⟨RX11, "height", "(II)I"⟩
abbrev cX11_line : ByteArray := prog_1_method_3_code
def yX11_line : MethodName := ⟨RX11, "line", "(II)I"⟩
abbrev cX11_set : ByteArray := prog_1_method_4_code
def yX11_set : MethodName := ⟨RX11, "set", "(II)I"⟩
abbrev cX11_cellTold : ByteArray := prog_1_method_5_code
def yX11_cellTold : MethodName := ⟨RX11, "cellTold", "(II)I"⟩
abbrev cX11_mark : ByteArray := prog_1_method_6_code
def yX11_mark : MethodName := ⟨RX11, "mark", "(IIII)I"⟩
abbrev cX11_walk : ByteArray := prog_1_method_7_code
def yX11_walk : MethodName := ⟨RX11, "walk", "(II)I"⟩
abbrev cX11_gone : ByteArray := prog_1_method_8_code
def yX11_gone : MethodName := ⟨RX11, "gone", "(II)I"⟩
abbrev cX11_markTold : ByteArray := prog_1_method_9_code
def yX11_markTold : MethodName := ⟨RX11, "markTold", "(II)I"⟩
abbrev cX11_at : ByteArray := prog_1_method_10_code
def yX11_at : MethodName := ⟨RX11, "at", "(II)I"⟩
abbrev cX11_sight : ByteArray := prog_1_method_11_code
def yX11_sight : MethodName := ⟨RX11, "sight", "(II)I"⟩
abbrev cX11_sees : ByteArray := prog_1_method_12_code
def yX11_sees : MethodName := ⟨RX11, "sees", "(II)J"⟩
abbrev cX11_view : ByteArray := prog_1_method_13_code
def yX11_view : MethodName := ⟨RX11, "view", "(II)J"⟩
abbrev cX11_feed : ByteArray := prog_1_method_14_code
def yX11_feed : MethodName := ⟨RX11, "feed", "(IJ)I"⟩
abbrev cX11_text : ByteArray := prog_1_method_15_code
def yX11_text : MethodName := ⟨RX11, "text", "()I"⟩
abbrev cX11_force : ByteArray := prog_1_method_16_code
def yX11_force : MethodName := ⟨RX11, "force", "(II)I"⟩
abbrev cX11_says : ByteArray := prog_1_method_17_code
def yX11_says : MethodName := ⟨RX11, "says", "(IIII)J"⟩
abbrev cX11_breaches : ByteArray := prog_1_method_18_code
def yX11_breaches : MethodName := ⟨RX11, "breaches", "(II)I"⟩
abbrev cX11_astray : ByteArray := prog_1_method_19_code
def yX11_astray : MethodName := ⟨RX11, "astray", "(I)I"⟩
abbrev cX11_permit : ByteArray := prog_1_method_20_code
def yX11_permit : MethodName := ⟨RX11, "permit", "(IIIII)I"⟩
abbrev cX11_may : ByteArray := prog_1_method_21_code
def yX11_may : MethodName := ⟨RX11, "may", "(III)I"⟩
abbrev cX11_doing : ByteArray := prog_1_method_22_code
def yX11_doing : MethodName := ⟨RX11, "doing", "(III)I"⟩
abbrev cX11_report : ByteArray := prog_1_method_23_code
def yX11_report : MethodName := ⟨RX11, "report", "(IIII)I"⟩
abbrev cX11_takeBack : ByteArray := prog_1_method_24_code
def yX11_takeBack : MethodName := ⟨RX11, "takeBack", "(I)I"⟩
abbrev cX11_lets : ByteArray := prog_1_method_25_code
def yX11_lets : MethodName := ⟨RX11, "lets", "(II)I"⟩
abbrev cX11_left : ByteArray := prog_1_method_26_code
def yX11_left : MethodName := ⟨RX11, "left", "()I"⟩
abbrev cX11_worst : ByteArray := prog_1_method_27_code
def yX11_worst : MethodName := ⟨RX11, "worst", "(III)I"⟩
abbrev cX11_look : ByteArray := prog_1_method_28_code
def yX11_look : MethodName := ⟨RX11, "look", "(I)I"⟩
abbrev cX11_finding : ByteArray := prog_1_method_29_code
def yX11_finding : MethodName := ⟨RX11, "finding", "(III)I"⟩
abbrev cX11_standing : ByteArray := prog_1_method_30_code
def yX11_standing : MethodName := ⟨RX11, "standing", "()I"⟩
abbrev cX11_hold : ByteArray := prog_1_method_31_code
def yX11_hold : MethodName := ⟨RX11, "hold", "(II)I"⟩
abbrev cX11_shots : ByteArray := prog_1_method_32_code
def yX11_shots : MethodName := ⟨RX11, "shots", "(III)I"⟩
abbrev cX11_calm : ByteArray := prog_1_method_33_code
def yX11_calm : MethodName := ⟨RX11, "calm", "(IIII)I"⟩
abbrev cX11_list : ByteArray := prog_1_method_34_code
def yX11_list : MethodName := ⟨RX11, "list", "(I)I"⟩
abbrev cX11_cover : ByteArray := prog_1_method_35_code
def yX11_cover : MethodName := ⟨RX11, "cover", "(III)I"⟩
abbrev cX11_drawBack : ByteArray := prog_1_method_36_code
def yX11_drawBack : MethodName := ⟨RX11, "drawBack", "(III)I"⟩
abbrev cX11_strength : ByteArray := prog_1_method_37_code
def yX11_strength : MethodName := ⟨RX11, "strength", "(I)I"⟩
abbrev cX11_protest : ByteArray := prog_1_method_38_code
def yX11_protest : MethodName := ⟨RX11, "protest", "(III)I"⟩
abbrev cX11_answer : ByteArray := prog_1_method_39_code
def yX11_answer : MethodName := ⟨RX11, "answer", "(II)I"⟩
abbrev cX11_late : ByteArray := prog_1_method_40_code
def yX11_late : MethodName := ⟨RX11, "late", "(I)I"⟩
abbrev cX11_blame : ByteArray := prog_1_method_41_code
def yX11_blame : MethodName := ⟨RX11, "blame", "(I)I"⟩
abbrev cX11_listed : ByteArray := prog_1_method_42_code
def yX11_listed : MethodName := ⟨RX11, "listed", "(III)I"⟩
abbrev cX11_alone : ByteArray := prog_1_method_43_code
def yX11_alone : MethodName := ⟨RX11, "alone", "(I)J"⟩
abbrev cX11_count : ByteArray := prog_1_method_44_code
def yX11_count : MethodName := ⟨RX11, "count", "(I)I"⟩
abbrev cX11_sheet : ByteArray := prog_1_method_45_code
def yX11_sheet : MethodName := ⟨RX11, "sheet", "(III)I"⟩
abbrev cX11_cell : ByteArray := prog_1_method_46_code
def yX11_cell : MethodName := ⟨RX11, "cell", "(III)I"⟩
abbrev cX11_copy : ByteArray := prog_1_method_47_code
def yX11_copy : MethodName := ⟨RX11, "copy", "(IIIII)I"⟩
abbrev cX11_heights : ByteArray := prog_1_method_48_code
def yX11_heights : MethodName := ⟨RX11, "heights", "(IIIII)I"⟩
abbrev cX11_taken : ByteArray := prog_1_method_49_code
def yX11_taken : MethodName := ⟨RX11, "taken", "(II)I"⟩
abbrev cX11_tellHeights : ByteArray := prog_1_method_50_code
def yX11_tellHeights : MethodName := ⟨RX11, "tellHeights", "(ILTruceLine$Sheet;II)I"⟩
abbrev cX11_isWithin : ByteArray := prog_1_method_51_code
def yX11_isWithin : MethodName := ⟨RX11, "isWithin", "(III)Z"⟩
abbrev cX11_isCell : ByteArray := prog_1_method_52_code
def yX11_isCell : MethodName := ⟨RX11, "isCell", "(I)Z"⟩
abbrev cX11_isHour : ByteArray := prog_1_method_53_code
def yX11_isHour : MethodName := ⟨RX11, "isHour", "(I)Z"⟩
abbrev cX11_isSide : ByteArray := prog_1_method_54_code
def yX11_isSide : MethodName := ⟨RX11, "isSide", "(I)Z"⟩
abbrev cX11_isArmy : ByteArray := prog_1_method_55_code
def yX11_isArmy : MethodName := ⟨RX11, "isArmy", "(I)Z"⟩
abbrev cX11_isBit : ByteArray := prog_1_method_56_code
def yX11_isBit : MethodName := ⟨RX11, "isBit", "(I)Z"⟩
abbrev cX11_isKind : ByteArray := prog_1_method_57_code
def yX11_isKind : MethodName := ⟨RX11, "isKind", "(I)Z"⟩
abbrev cX11_isSheet : ByteArray := prog_1_method_58_code
def yX11_isSheet : MethodName := ⟨RX11, "isSheet", "(I)Z"⟩
abbrev cX11_isSetOf : ByteArray := prog_1_method_59_code
def yX11_isSetOf : MethodName := ⟨RX11, "isSetOf", "(II)Z"⟩
abbrev cX11_isIn : ByteArray := prog_1_method_60_code
def yX11_isIn : MethodName := ⟨RX11, "isIn", "(II)Z"⟩
abbrev cX11_bit : ByteArray := prog_1_method_61_code
def yX11_bit : MethodName := ⟨RX11, "bit", "(Z)I"⟩
abbrev cX11_apartOf : ByteArray := prog_1_method_62_code
def yX11_apartOf : MethodName := ⟨RX11, "apartOf", "(II)I"⟩
abbrev cX11_isNight : ByteArray := prog_1_method_63_code
def yX11_isNight : MethodName := ⟨RX11, "isNight", "(I)Z"⟩
def RX12 : String := "TruceLineModel"
def TX12 : u_T := fun k => match k with
  | 0 => ("TruceLineModel", "height", "[I", true)
  | 1 => ("TruceLineModel", "line", "[I", true)
  | 2 => ("TruceLineModel", "wide", "I", false)
  | 3 => ("TruceLineModel", "mist", "I", false)
  | 4 => ("TruceLineModel", "marks", "I", false)
  | 5 => ("TruceLineModel", "kind", "[I", true)
  | 6 => ("TruceLineModel", "side", "[I", true)
  | 7 => ("TruceLineModel", "home", "[I", true)
  | 8 => ("TruceLineModel", "size", "[I", true)
  | 9 => ("TruceLineModel", "steps", "[I", true)
  | 10 => ("TruceLineModel", "step", "[I", true)
  | 11 => ("TruceLineModel", "isGone", "[Z", true)
  | 12 => ("TruceLineModel", "isHeld", "[Z", true)
  | 13 => ("TruceLineModel", "tape", "[B", true)
  | 14 => ("TruceLineModel", "taped", "I", false)
  | 15 => ("TruceLineModel", "texts", "I", false)
  | 16 => ("TruceLineModel", "ruleOf", "[I", true)
  | 17 => ("TruceLineModel", "many", "[I", true)
  | 18 => ("TruceLineModel", "row", "[I", true)
  | 19 => ("TruceLineModel", "at", "I", false)
  | 20 => ("TruceLineModel", "token", "I", false)
  | 21 => ("TruceLineModel", "value", "I", false)
  | 22 => ("TruceLineModel", "begin", "I", false)
  | 23 => ("TruceLineModel", "waits", "[I", true)
  | 24 => ("TruceLineModel", "compared", "[Z", true)
  | 25 => ("TruceLineModel", "held", "I", false)
  | 26 => ("TruceLineModel", "brackets", "I", false)
  | 27 => ("TruceLineModel", "open", "I", false)
  | 28 => ("TruceLineModel", "of", "I", false)
  | 29 => ("TruceLineModel", "facts", "[I", true)
  | 30 => ("TruceLineModel", "pile", "[I", true)
  | 31 => ("TruceLineModel", "permits", "I", false)
  | 32 => ("TruceLineModel", "whose", "[I", true)
  | 33 => ("TruceLineModel", "rowFrom", "[I", true)
  | 34 => ("TruceLineModel", "rowTo", "[I", true)
  | 35 => ("TruceLineModel", "since", "[I", true)
  | 36 => ("TruceLineModel", "until", "[I", true)
  | 37 => ("TruceLineModel", "doings", "I", false)
  | 38 => ("TruceLineModel", "reports", "I", false)
  | 39 => ("TruceLineModel", "findings", "I", false)
  | 40 => ("TruceLineModel", "sound", "[I", true)
  | 41 => ("TruceLineModel", "where", "[I", true)
  | 42 => ("TruceLineModel", "when", "[I", true)
  | 43 => ("TruceLineModel", "teller", "[I", true)
  | 44 => ("TruceLineModel", "toldOf", "[I", true)
  | 45 => ("TruceLineModel", "how", "[I", true)
  | 46 => ("TruceLineModel", "yes", "[I", true)
  | 47 => ("TruceLineModel", "says0", "[I", true)
  | 48 => ("TruceLineModel", "leansOn", "[I", true)
  | 49 => ("TruceLineModel", "leansBy", "[I", true)
  | 50 => ("TruceLineModel", "isBack", "[Z", true)
  | 51 => ("TruceLineModel", "listed0", "I", false)
  | 52 => ("TruceLineModel", "listCell", "[I", true)
  | 53 => ("TruceLineModel", "coverOf", "[J", true)
  | 54 => ("TruceLineModel", "guns", "[I", true)
  | 55 => ("TruceLineModel", "gunMany", "I", false)
  | 56 => ("TruceLineModel", "canAll", "[Z", true)
  | 57 => ("TruceLineModel", "protests", "I", false)
  | 58 => ("TruceLineModel", "by", "[I", true)
  | 59 => ("TruceLineModel", "made", "[I", true)
  | 60 => ("TruceLineModel", "about", "[I", true)
  | 61 => ("TruceLineModel", "answered", "[I", true)
  | 62 => ("TruceLineModel", "persons", "[J", true)
  | 63 => ("TruceLineModel", "sheetSort", "[I", true)
  | 64 => ("TruceLineModel", "length", "[I", true)
  | 65 => ("TruceLineModel", "item", "[I", true)
  | _ => ("TruceLineModel", "aside", "[I", true)
def tyX12 : Nat → FieldType := fun k => match k with
  | 0 => .array .int
  | 1 => .array .int
  | 2 => .int
  | 3 => .int
  | 4 => .int
  | 5 => .array .int
  | 6 => .array .int
  | 7 => .array .int
  | 8 => .array .int
  | 9 => .array .int
  | 10 => .array .int
  | 11 => .array .boolean
  | 12 => .array .boolean
  | 13 => .array .byte
  | 14 => .int
  | 15 => .int
  | 16 => .array .int
  | 17 => .array .int
  | 18 => .array .int
  | 19 => .int
  | 20 => .int
  | 21 => .int
  | 22 => .int
  | 23 => .array .int
  | 24 => .array .boolean
  | 25 => .int
  | 26 => .int
  | 27 => .int
  | 28 => .int
  | 29 => .array .int
  | 30 => .array .int
  | 31 => .int
  | 32 => .array .int
  | 33 => .array .int
  | 34 => .array .int
  | 35 => .array .int
  | 36 => .array .int
  | 37 => .int
  | 38 => .int
  | 39 => .int
  | 40 => .array .int
  | 41 => .array .int
  | 42 => .array .int
  | 43 => .array .int
  | 44 => .array .int
  | 45 => .array .int
  | 46 => .array .int
  | 47 => .array .int
  | 48 => .array .int
  | 49 => .array .int
  | 50 => .array .boolean
  | 51 => .int
  | 52 => .array .int
  | 53 => .array .long
  | 54 => .array .int
  | 55 => .int
  | 56 => .array .boolean
  | 57 => .int
  | 58 => .array .int
  | 59 => .array .int
  | 60 => .array .int
  | 61 => .array .int
  | 62 => .array .long
  | 63 => .array .int
  | 64 => .array .int
  | 65 => .array .int
  | _ => .array .int
abbrev wsX120 : List Cond := u_ws RX12 TX12 67
theorem nmX12 : ∀ a, a < 67 → ∀ b, b < 67 → a ≠ b → (TX12 a).2.1 ≠ (TX12 b).2.1 := by decide +kernel
theorem tyX12_ok : ∀ k, k < 67 → parseFieldDescriptor (TX12 k).2.2.1 = some (tyX12 k) := by decide +kernel
abbrev cX12_in : ByteArray := prog_14_method_1_code
def yX12_in : MethodName := ⟨RX12, "in", "(III)Z"⟩
abbrev cX12_init : ByteArray := prog_14_method_2_code
def yX12_init : MethodName := ⟨RX12, "<init>", "()V"⟩
abbrev cX12_isCell : ByteArray := prog_14_method_3_code
def yX12_isCell : MethodName := ⟨RX12, "isCell", "(I)Z"⟩
abbrev cX12_isHour : ByteArray := prog_14_method_4_code
def yX12_isHour : MethodName := ⟨RX12, "isHour", "(I)Z"⟩
abbrev cX12_height : ByteArray := prog_14_method_5_code
def yX12_height : MethodName := ⟨RX12, "height", "(II)I"⟩
abbrev cX12_line : ByteArray := prog_14_method_6_code
def yX12_line : MethodName := ⟨RX12, "line", "(II)I"⟩
abbrev cX12_set : ByteArray := prog_14_method_7_code
def yX12_set : MethodName := ⟨RX12, "set", "(II)I"⟩
abbrev cX12_sideAt : ByteArray := prog_14_method_8_code
def yX12_sideAt : MethodName := ⟨RX12, "sideAt", "(I)I"⟩
abbrev cX12_farAt : ByteArray := prog_14_method_9_code
def yX12_farAt : MethodName := ⟨RX12, "farAt", "(I)I"⟩
abbrev cX12_cellTold : ByteArray := prog_14_method_10_code
def yX12_cellTold : MethodName := ⟨RX12, "cellTold", "(II)I"⟩
abbrev cX12_abs : ByteArray := prog_14_method_11_code
def yX12_abs : MethodName := ⟨RX12, "abs", "(I)I"⟩
abbrev cX12_apart : ByteArray := prog_14_method_12_code
def yX12_apart : MethodName := ⟨RX12, "apart", "(II)I"⟩
abbrev cX12_isNight : ByteArray := prog_14_method_13_code
def yX12_isNight : MethodName := ⟨RX12, "isNight", "(I)Z"⟩
abbrev cX12_isMark : ByteArray := prog_14_method_14_code
def yX12_isMark : MethodName := ⟨RX12, "isMark", "(I)Z"⟩
abbrev cX12_mark : ByteArray := prog_14_method_15_code
def yX12_mark : MethodName := ⟨RX12, "mark", "(IIII)I"⟩
abbrev cX12_isUnder : ByteArray := prog_14_method_16_code
def yX12_isUnder : MethodName := ⟨RX12, "isUnder", "(II)Z"⟩
abbrev cX12_walk : ByteArray := prog_14_method_17_code
def yX12_walk : MethodName := ⟨RX12, "walk", "(II)I"⟩
abbrev cX12_gone : ByteArray := prog_14_method_18_code
def yX12_gone : MethodName := ⟨RX12, "gone", "(II)I"⟩
abbrev cX12_earOf : ByteArray := prog_14_method_19_code
def yX12_earOf : MethodName := ⟨RX12, "earOf", "(I)I"⟩
abbrev cX12_markTold : ByteArray := prog_14_method_20_code
def yX12_markTold : MethodName := ⟨RX12, "markTold", "(II)I"⟩
abbrev cX12_cellOf : ByteArray := prog_14_method_21_code
def yX12_cellOf : MethodName := ⟨RX12, "cellOf", "(II)I"⟩
abbrev cX12_at : ByteArray := prog_14_method_22_code
def yX12_at : MethodName := ⟨RX12, "at", "(II)I"⟩
abbrev cX12_sightOf : ByteArray := prog_14_method_23_code
def yX12_sightOf : MethodName := ⟨RX12, "sightOf", "(III)I"⟩
abbrev cX12_sight : ByteArray := prog_14_method_24_code
def yX12_sight : MethodName := ⟨RX12, "sight", "(II)I"⟩
abbrev cX12_isClear : ByteArray := prog_14_method_25_code
def yX12_isClear : MethodName := ⟨RX12, "isClear", "(II)Z"⟩
abbrev cX12_seenFrom : ByteArray := prog_14_method_26_code
def yX12_seenFrom : MethodName := ⟨RX12, "seenFrom", "(III)J"⟩
abbrev cX12_seenBy : ByteArray := prog_14_method_27_code
def yX12_seenBy : MethodName := ⟨RX12, "seenBy", "(II)J"⟩
abbrev cX12_sees : ByteArray := prog_14_method_28_code
def yX12_sees : MethodName := ⟨RX12, "sees", "(II)J"⟩
abbrev cX12_viewOf : ByteArray := prog_14_method_29_code
def yX12_viewOf : MethodName := ⟨RX12, "viewOf", "(II)J"⟩
abbrev cX12_view : ByteArray := prog_14_method_30_code
def yX12_view : MethodName := ⟨RX12, "view", "(II)J"⟩
abbrev cX12_ruleZero : ByteArray := prog_14_method_31_code
def yX12_ruleZero : MethodName := ⟨RX12, "ruleZero", "()V"⟩
abbrev cX12_feed : ByteArray := prog_14_method_32_code
def yX12_feed : MethodName := ⟨RX12, "feed", "(IJ)I"⟩
abbrev cX12_isLetter : ByteArray := prog_14_method_33_code
def yX12_isLetter : MethodName := ⟨RX12, "isLetter", "(I)Z"⟩
abbrev cX12_isDigit : ByteArray := prog_14_method_34_code
def yX12_isDigit : MethodName := ⟨RX12, "isDigit", "(I)Z"⟩
abbrev cX12_isWord : ByteArray := prog_14_method_35_code
def yX12_isWord : MethodName := ⟨RX12, "isWord", "(J)Z"⟩
abbrev cX12_wordToken : ByteArray := prog_14_method_36_code
def yX12_wordToken : MethodName := ⟨RX12, "wordToken", "()V"⟩
abbrev cX12_next : ByteArray := prog_14_method_37_code
def yX12_next : MethodName := ⟨RX12, "next", "()V"⟩
abbrev cX12_isKey : ByteArray := prog_14_method_38_code
def yX12_isKey : MethodName := ⟨RX12, "isKey", "(I)Z"⟩
abbrev cX12_isSign : ByteArray := prog_14_method_39_code
def yX12_isSign : MethodName := ⟨RX12, "isSign", "(I)Z"⟩
abbrev cX12_put : ByteArray := prog_14_method_40_code
def yX12_put : MethodName := ⟨RX12, "put", "(I)V"⟩
abbrev cX12_rank : ByteArray := prog_14_method_41_code
def yX12_rank : MethodName := ⟨RX12, "rank", "(I)I"⟩
abbrev cX12_settle : ByteArray := prog_14_method_42_code
def yX12_settle : MethodName := ⟨RX12, "settle", "(I)V"⟩
abbrev cX12_hold : ByteArray := prog_14_method_43_code
def yX12_hold : MethodName := ⟨RX12, "hold", "(I)V"⟩
abbrev cX12_ahead : ByteArray := prog_14_method_44_code
def yX12_ahead : MethodName := ⟨RX12, "ahead", "(Z)Z"⟩
abbrev cX12_signOf : ByteArray := prog_14_method_45_code
def yX12_signOf : MethodName := ⟨RX12, "signOf", "()I"⟩
abbrev cX12_part : ByteArray := prog_14_method_46_code
def yX12_part : MethodName := ⟨RX12, "part", "()Z"⟩
abbrev cX12_isText : ByteArray := prog_14_method_47_code
def yX12_isText : MethodName := ⟨RX12, "isText", "()Z"⟩
abbrev cX12_text : ByteArray := prog_14_method_48_code
def yX12_text : MethodName := ⟨RX12, "text", "()I"⟩
abbrev cX12_force : ByteArray := prog_14_method_49_code
def yX12_force : MethodName := ⟨RX12, "force", "(II)I"⟩
abbrev cX12_both : ByteArray := prog_14_method_50_code
def yX12_both : MethodName := ⟨RX12, "both", "(III)I"⟩
abbrev cX12_work : ByteArray := prog_14_method_51_code
def yX12_work : MethodName := ⟨RX12, "work", "(II)I"⟩
abbrev cX12_ask : ByteArray := prog_14_method_52_code
def yX12_ask : MethodName := ⟨RX12, "ask", "(IIII)I"⟩
abbrev cX12_says : ByteArray := prog_14_method_53_code
def yX12_says : MethodName := ⟨RX12, "says", "(IIII)J"⟩
abbrev cX12_breaches : ByteArray := prog_14_method_54_code
def yX12_breaches : MethodName := ⟨RX12, "breaches", "(II)I"⟩
abbrev cX12_astray : ByteArray := prog_14_method_55_code
def yX12_astray : MethodName := ⟨RX12, "astray", "(I)I"⟩
abbrev cX12_permit : ByteArray := prog_14_method_56_code
def yX12_permit : MethodName := ⟨RX12, "permit", "(IIIII)I"⟩
abbrev cX12_may : ByteArray := prog_14_method_57_code
def yX12_may : MethodName := ⟨RX12, "may", "(III)I"⟩
abbrev cX12_isDoing : ByteArray := prog_14_method_58_code
def yX12_isDoing : MethodName := ⟨RX12, "isDoing", "(I)Z"⟩
abbrev cX12_doing : ByteArray := prog_14_method_59_code
def yX12_doing : MethodName := ⟨RX12, "doing", "(III)I"⟩
abbrev cX12_loud : ByteArray := prog_14_method_60_code
def yX12_loud : MethodName := ⟨RX12, "loud", "(I)I"⟩
abbrev cX12_knows : ByteArray := prog_14_method_61_code
def yX12_knows : MethodName := ⟨RX12, "knows", "(IIII)Z"⟩
abbrev cX12_report : ByteArray := prog_14_method_62_code
def yX12_report : MethodName := ⟨RX12, "report", "(IIII)I"⟩
abbrev cX12_takeBack : ByteArray := prog_14_method_63_code
def yX12_takeBack : MethodName := ⟨RX12, "takeBack", "(I)I"⟩
abbrev cX12_isLet : ByteArray := prog_14_method_64_code
def yX12_isLet : MethodName := ⟨RX12, "isLet", "(II)Z"⟩
abbrev cX12_lets : ByteArray := prog_14_method_65_code
def yX12_lets : MethodName := ⟨RX12, "lets", "(II)I"⟩
abbrev cX12_left : ByteArray := prog_14_method_66_code
def yX12_left : MethodName := ⟨RX12, "left", "()I"⟩
abbrev cX12_worstOf : ByteArray := prog_14_method_67_code
def yX12_worstOf : MethodName := ⟨RX12, "worstOf", "(IIII)I"⟩
abbrev cX12_worst : ByteArray := prog_14_method_68_code
def yX12_worst : MethodName := ⟨RX12, "worst", "(III)I"⟩
abbrev cX12_look : ByteArray := prog_14_method_69_code
def yX12_look : MethodName := ⟨RX12, "look", "(I)I"⟩
abbrev cX12_finding : ByteArray := prog_14_method_70_code
def yX12_finding : MethodName := ⟨RX12, "finding", "(III)I"⟩
abbrev cX12_standing : ByteArray := prog_14_method_71_code
def yX12_standing : MethodName := ⟨RX12, "standing", "()I"⟩
abbrev cX12_hold_ : ByteArray := prog_14_method_72_code
def yX12_hold_ : MethodName := ⟨RX12, "hold", "(II)I"⟩
abbrev cX12_shooting : ByteArray := prog_14_method_73_code
def yX12_shooting : MethodName := ⟨RX12, "shooting", "(IIII)I"⟩
abbrev cX12_canShoot : ByteArray := prog_14_method_74_code
def yX12_canShoot : MethodName := ⟨RX12, "canShoot", "(II)Z"⟩
abbrev cX12_shots : ByteArray := prog_14_method_75_code
def yX12_shots : MethodName := ⟨RX12, "shots", "(III)I"⟩
abbrev cX12_ones : ByteArray := prog_14_method_76_code
def yX12_ones : MethodName := ⟨RX12, "ones", "(I)I"⟩
abbrev cX12_calm : ByteArray := prog_14_method_77_code
def yX12_calm : MethodName := ⟨RX12, "calm", "(IIII)I"⟩
abbrev cX12_list : ByteArray := prog_14_method_78_code
def yX12_list : MethodName := ⟨RX12, "list", "(I)I"⟩
abbrev cX12_bitsOf : ByteArray := prog_14_method_79_code
def yX12_bitsOf : MethodName := ⟨RX12, "bitsOf", "(J)I"⟩
abbrev cX12_coveredBy : ByteArray := prog_14_method_80_code
def yX12_coveredBy : MethodName := ⟨RX12, "coveredBy", "(I)I"⟩
abbrev cX12_cover : ByteArray := prog_14_method_81_code
def yX12_cover : MethodName := ⟨RX12, "cover", "(III)I"⟩
abbrev cX12_strengthOf : ByteArray := prog_14_method_82_code
def yX12_strengthOf : MethodName := ⟨RX12, "strengthOf", "(II)I"⟩
abbrev cX12_strength : ByteArray := prog_14_method_83_code
def yX12_strength : MethodName := ⟨RX12, "strength", "(I)I"⟩
abbrev cX12_marksOf : ByteArray := prog_14_method_84_code
def yX12_marksOf : MethodName := ⟨RX12, "marksOf", "(I)I"⟩
abbrev cX12_drawBack : ByteArray := prog_14_method_85_code
def yX12_drawBack : MethodName := ⟨RX12, "drawBack", "(III)I"⟩
abbrev cX12_protest : ByteArray := prog_14_method_86_code
def yX12_protest : MethodName := ⟨RX12, "protest", "(III)I"⟩
abbrev cX12_answer : ByteArray := prog_14_method_87_code
def yX12_answer : MethodName := ⟨RX12, "answer", "(II)I"⟩
abbrev cX12_late : ByteArray := prog_14_method_88_code
def yX12_late : MethodName := ⟨RX12, "late", "(I)I"⟩
abbrev cX12_blame : ByteArray := prog_14_method_89_code
def yX12_blame : MethodName := ⟨RX12, "blame", "(I)I"⟩
abbrev cX12_listed : ByteArray := prog_14_method_90_code
def yX12_listed : MethodName := ⟨RX12, "listed", "(III)I"⟩
abbrev cX12_alone : ByteArray := prog_14_method_91_code
def yX12_alone : MethodName := ⟨RX12, "alone", "(I)J"⟩
abbrev cX12_count : ByteArray := prog_14_method_92_code
def yX12_count : MethodName := ⟨RX12, "count", "(I)I"⟩
abbrev cX12_isSheet : ByteArray := prog_14_method_93_code
def yX12_isSheet : MethodName := ⟨RX12, "isSheet", "(I)Z"⟩
abbrev cX12_sheet : ByteArray := prog_14_method_94_code
def yX12_sheet : MethodName := ⟨RX12, "sheet", "(III)I"⟩
abbrev cX12_cell : ByteArray := prog_14_method_95_code
def yX12_cell : MethodName := ⟨RX12, "cell", "(III)I"⟩
abbrev cX12_copy : ByteArray := prog_14_method_96_code
def yX12_copy : MethodName := ⟨RX12, "copy", "(IIIII)I"⟩
abbrev cX12_heights : ByteArray := prog_14_method_97_code
def yX12_heights : MethodName := ⟨RX12, "heights", "(IIIII)I"⟩
abbrev cX12_taken : ByteArray := prog_14_method_98_code
def yX12_taken : MethodName := ⟨RX12, "taken", "(II)I"⟩
def RJx145de : String := "java/io/Serializable"
def TJx145de : u_T := fun k => match k with
  | _ => ("", "", "", false)
def tyJx145de : Nat → FieldType := fun k => match k with
  | _ => .int
abbrev wsJx145de0 : List Cond := u_ws RJx145de TJx145de 0
theorem nmJx145de : ∀ a, a < 0 → ∀ b, b < 0 → a ≠ b → (TJx145de a).2.1 ≠ (TJx145de b).2.1 := by decide +kernel
theorem tyJx145de_ok : ∀ k, k < 0 → parseFieldDescriptor (TJx145de k).2.2.1 = some (tyJx145de k) := by decide +kernel
def RJx9f9b0 : String := "java/lang/CharSequence"
def TJx9f9b0 : u_T := fun k => match k with
  | _ => ("", "", "", false)
def tyJx9f9b0 : Nat → FieldType := fun k => match k with
  | _ => .int
abbrev wsJx9f9b00 : List Cond := u_ws RJx9f9b0 TJx9f9b0 0
theorem nmJx9f9b0 : ∀ a, a < 0 → ∀ b, b < 0 → a ≠ b → (TJx9f9b0 a).2.1 ≠ (TJx9f9b0 b).2.1 := by decide +kernel
theorem tyJx9f9b0_ok : ∀ k, k < 0 → parseFieldDescriptor (TJx9f9b0 k).2.2.1 = some (tyJx9f9b0 k) := by decide +kernel
def RJxb160c : String := "java/lang/Comparable"
def TJxb160c : u_T := fun k => match k with
  | _ => ("", "", "", false)
def tyJxb160c : Nat → FieldType := fun k => match k with
  | _ => .int
abbrev wsJxb160c0 : List Cond := u_ws RJxb160c TJxb160c 0
theorem nmJxb160c : ∀ a, a < 0 → ∀ b, b < 0 → a ≠ b → (TJxb160c a).2.1 ≠ (TJxb160c b).2.1 := by decide +kernel
theorem tyJxb160c_ok : ∀ k, k < 0 → parseFieldDescriptor (TJxb160c k).2.2.1 = some (tyJxb160c k) := by decide +kernel
def RJ6 : String := "java/lang/Integer"
def TJ6 : u_T := fun k => match k with
  | _ => ("", "", "", false)
def tyJ6 : Nat → FieldType := fun k => match k with
  | _ => .int
abbrev wsJ60 : List Cond := u_ws RJ6 TJ6 0
theorem nmJ6 : ∀ a, a < 0 → ∀ b, b < 0 → a ≠ b → (TJ6 a).2.1 ≠ (TJ6 b).2.1 := by decide +kernel
theorem tyJ6_ok : ∀ k, k < 0 → parseFieldDescriptor (TJ6 k).2.2.1 = some (tyJ6 k) := by decide +kernel
abbrev cJ6_bitCount_0f7a4 : ByteArray := prog_15_method_49_code
def yJ6_bitCount_0f7a4 : MethodName := ⟨RJ6, "bitCount", "(I)I"⟩
def RJ13 : String := "java/lang/Long"
def TJ13 : u_T := fun k => match k with
  | _ => ("", "", "", false)
def tyJ13 : Nat → FieldType := fun k => match k with
  | _ => .int
abbrev wsJ130 : List Cond := u_ws RJ13 TJ13 0
theorem nmJ13 : ∀ a, a < 0 → ∀ b, b < 0 → a ≠ b → (TJ13 a).2.1 ≠ (TJ13 b).2.1 := by decide +kernel
theorem tyJ13_ok : ∀ k, k < 0 → parseFieldDescriptor (TJ13 k).2.2.1 = some (tyJ13 k) := by decide +kernel
abbrev cJ13_bitCount_95d88 : ByteArray := prog_16_method_50_code
def yJ13_bitCount_95d88 : MethodName := ⟨RJ13, "bitCount", "(J)I"⟩
def RJ9 : String := "java/lang/Math"
def TJ9 : u_T := fun k => match k with
  | _ => ("", "", "", false)
def tyJ9 : Nat → FieldType := fun k => match k with
  | _ => .int
abbrev wsJ90 : List Cond := u_ws RJ9 TJ9 0
theorem nmJ9 : ∀ a, a < 0 → ∀ b, b < 0 → a ≠ b → (TJ9 a).2.1 ≠ (TJ9 b).2.1 := by decide +kernel
theorem tyJ9_ok : ∀ k, k < 0 → parseFieldDescriptor (TJ9 k).2.2.1 = some (tyJ9 k) := by decide +kernel
abbrev cJ9_abs_0f7a4 : ByteArray := prog_17_method_59_code
def yJ9_abs_0f7a4 : MethodName := ⟨RJ9, "abs", "(I)I"⟩
abbrev cJ9_max_7cf53 : ByteArray := prog_17_method_65_code
def yJ9_max_7cf53 : MethodName := ⟨RJ9, "max", "(II)I"⟩
abbrev cJ9_min_7cf53 : ByteArray := prog_17_method_69_code
def yJ9_min_7cf53 : MethodName := ⟨RJ9, "min", "(II)I"⟩
def RJ0 : String := "java/lang/String"
def TJ0 : u_T := fun k => match k with
  | _ => ("", "", "", false)
def tyJ0 : Nat → FieldType := fun k => match k with
  | _ => .int
abbrev wsJ00 : List Cond := u_ws RJ0 TJ0 0
theorem nmJ0 : ∀ a, a < 0 → ∀ b, b < 0 → a ≠ b → (TJ0 a).2.1 ≠ (TJ0 b).2.1 := by decide +kernel
theorem tyJ0_ok : ∀ k, k < 0 → parseFieldDescriptor (TJ0 k).2.2.1 = some (tyJ0 k) := by decide +kernel
abbrev cJ0_length_8abf5 : ByteArray := prog_18_method_54_code
def yJ0_length_8abf5 : MethodName := ⟨RJ0, "length", "()I"⟩
abbrev cJ0_charAt_5068e : ByteArray := prog_18_method_56_code
def yJ0_charAt_5068e : MethodName := ⟨RJ0, "charAt", "(I)C"⟩
abbrev cJ0_coder_7d493 : ByteArray := prog_18_method_152_code
def yJ0_coder_7d493 : MethodName := ⟨RJ0, "coder", "()B"⟩
abbrev cJ0_isLatin1_aae02 : ByteArray := prog_18_method_154_code
def yJ0_isLatin1_aae02 : MethodName := ⟨RJ0, "isLatin1", "()Z"⟩
abbrev cJ0_checkIndex_df160 : ByteArray := prog_18_method_155_code
def yJ0_checkIndex_df160 : MethodName := ⟨RJ0, "checkIndex", "(II)V"⟩
def RJ1 : String := "java/lang/StringLatin1"
def TJ1 : u_T := fun k => match k with
  | _ => ("", "", "", false)
def tyJ1 : Nat → FieldType := fun k => match k with
  | _ => .int
abbrev wsJ10 : List Cond := u_ws RJ1 TJ1 0
theorem nmJ1 : ∀ a, a < 0 → ∀ b, b < 0 → a ≠ b → (TJ1 a).2.1 ≠ (TJ1 b).2.1 := by decide +kernel
theorem tyJ1_ok : ∀ k, k < 0 → parseFieldDescriptor (TJ1 k).2.2.1 = some (tyJ1 k) := by decide +kernel
abbrev cJ1_charAt_3b067 : ByteArray := prog_19_method_2_code
def yJ1_charAt_3b067 : MethodName := ⟨RJ1, "charAt", "([BI)C"⟩
def RJ2 : String := "java/lang/StringUTF16"
def TJ2 : u_T := fun k => match k with
  | _ => ("", "", "", false)
def tyJ2 : Nat → FieldType := fun k => match k with
  | _ => .int
abbrev wsJ20 : List Cond := u_ws RJ2 TJ2 0
theorem nmJ2 : ∀ a, a < 0 → ∀ b, b < 0 → a ≠ b → (TJ2 a).2.1 ≠ (TJ2 b).2.1 := by decide +kernel
theorem tyJ2_ok : ∀ k, k < 0 → parseFieldDescriptor (TJ2 k).2.2.1 = some (tyJ2 k) := by decide +kernel
abbrev cJ2_getChar_3b067 : ByteArray := prog_20_method_5_code
def yJ2_getChar_3b067 : MethodName := ⟨RJ2, "getChar", "([BI)C"⟩
abbrev cJ2_length_9d52b : ByteArray := prog_20_method_6_code
def yJ2_length_9d52b : MethodName := ⟨RJ2, "length", "([B)I"⟩
abbrev cJ2_charAt_3b067 : ByteArray := prog_20_method_83_code
def yJ2_charAt_3b067 : MethodName := ⟨RJ2, "charAt", "([BI)C"⟩
abbrev cJ2_checkIndex_2214a : ByteArray := prog_20_method_91_code
def yJ2_checkIndex_2214a : MethodName := ⟨RJ2, "checkIndex", "(I[B)V"⟩
def RJ10 : String := "java/lang/System"
def TJ10 : u_T := fun k => match k with
  | _ => ("", "", "", false)
def tyJ10 : Nat → FieldType := fun k => match k with
  | _ => .int
abbrev wsJ100 : List Cond := u_ws RJ10 TJ10 0
theorem nmJ10 : ∀ a, a < 0 → ∀ b, b < 0 → a ≠ b → (TJ10 a).2.1 ≠ (TJ10 b).2.1 := by decide +kernel
theorem tyJ10_ok : ∀ k, k < 0 → parseFieldDescriptor (TJ10 k).2.2.1 = some (tyJ10 k) := by decide +kernel
def RJxfd54e : String := "java/lang/constant/Constable"
def TJxfd54e : u_T := fun k => match k with
  | _ => ("", "", "", false)
def tyJxfd54e : Nat → FieldType := fun k => match k with
  | _ => .int
abbrev wsJxfd54e0 : List Cond := u_ws RJxfd54e TJxfd54e 0
theorem nmJxfd54e : ∀ a, a < 0 → ∀ b, b < 0 → a ≠ b → (TJxfd54e a).2.1 ≠ (TJxfd54e b).2.1 := by decide +kernel
theorem tyJxfd54e_ok : ∀ k, k < 0 → parseFieldDescriptor (TJxfd54e k).2.2.1 = some (tyJxfd54e k) := by decide +kernel
def RJx3cf43 : String := "java/lang/constant/ConstantDesc"
def TJx3cf43 : u_T := fun k => match k with
  | _ => ("", "", "", false)
def tyJx3cf43 : Nat → FieldType := fun k => match k with
  | _ => .int
abbrev wsJx3cf430 : List Cond := u_ws RJx3cf43 TJx3cf43 0
theorem nmJx3cf43 : ∀ a, a < 0 → ∀ b, b < 0 → a ≠ b → (TJx3cf43 a).2.1 ≠ (TJx3cf43 b).2.1 := by decide +kernel
theorem tyJx3cf43_ok : ∀ k, k < 0 → parseFieldDescriptor (TJx3cf43 k).2.2.1 = some (tyJx3cf43 k) := by decide +kernel
def RJ7 : String := "java/util/Arrays"
def TJ7 : u_T := fun k => match k with
  | _ => ("", "", "", false)
def tyJ7 : Nat → FieldType := fun k => match k with
  | _ => .int
abbrev wsJ70 : List Cond := u_ws RJ7 TJ7 0
theorem nmJ7 : ∀ a, a < 0 → ∀ b, b < 0 → a ≠ b → (TJ7 a).2.1 ≠ (TJ7 b).2.1 := by decide +kernel
theorem tyJ7_ok : ∀ k, k < 0 → parseFieldDescriptor (TJ7 k).2.2.1 = some (tyJ7 k) := by decide +kernel
abbrev cJ7_fill_53178 : ByteArray := prog_22_method_103_code
def yJ7_fill_53178 : MethodName := ⟨RJ7, "fill", "([II)V"⟩
def RJ3 : String := "jdk/internal/util/Preconditions"
def TJ3 : u_T := fun k => match k with
  | _ => ("", "", "", false)
def tyJ3 : Nat → FieldType := fun k => match k with
  | _ => .int
abbrev wsJ30 : List Cond := u_ws RJ3 TJ3 0
theorem nmJ3 : ∀ a, a < 0 → ∀ b, b < 0 → a ≠ b → (TJ3 a).2.1 ≠ (TJ3 b).2.1 := by decide +kernel
theorem tyJ3_ok : ∀ k, k < 0 → parseFieldDescriptor (TJ3 k).2.2.1 = some (tyJ3 k) := by decide +kernel
abbrev cJ3_checkIndex_8e157 : ByteArray := prog_23_method_11_code
def yJ3_checkIndex_8e157 : MethodName := ⟨RJ3, "checkIndex", "(IILjava/util/function/BiFunction;)I"⟩
def RL : String := "TruceLineLaw"
abbrev cL_law : ByteArray := code
def yL_law : MethodName := ⟨RL, "law", "([I)Z"⟩
abbrev vwCl : List vw_C := [(RX0, TX0, 15), (RX1, TX1, 4), (RX2, TX2, 9), (RX3, TX3, 3), (RX4, TX4, 12), (RX5, TX5, 8), (RX6, TX6, 9), (RX7, TX7, 3), (RX8, TX8, 2), (RX9, TX9, 7), (RX10, TX10, 4), (RX11, TX11, 9), (RX12, TX12, 67)]
